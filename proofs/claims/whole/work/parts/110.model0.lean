def FX12_in (x0 : Int64) (x2 : Int64) (x4 : Int64) : qP Int32 :=
if (lg_cmp x0 x2) < 0 then (
qr (0 : Int32)) else (
if 0 < (lg_cmp x0 x4) then (
qr (0 : Int32)) else (
qr (1 : Int32)))
set_option maxRecDepth 100000 in
set_option maxHeartbeats 4000000 in
theorem FX12_in_ok {l : Launch} {g : qG} {d n : Nat} (x0 : Int64) (x2 : Int64) (x4 : Int64) : qS l g mX12_in d n 0 0 0 0 cvI 0 [(0, .long x0), (2, .long x2), (4, .long x4)] [] (FX12_in x0 x2 x4) := by
  unfold FX12_in
  refine s_lload_n dX12_in_0 rfl ?_
  refine s_lload_n dX12_in_1 rfl ?_
  refine s_lcmp dX12_in_2 ?_
  refine s_if_lt (tgt := 17) dX12_in_3 (by decide) (fun c1 => ?_) (fun c1 => ?_)
  · refine s_iconst (v := 0) dX12_in_17 (by decide) ?_
    exact s_ireturn dX12_in_18 rfl (by decide)
  · refine s_lload_n dX12_in_6 rfl ?_
    refine s_lload dX12_in_7 rfl ?_
    refine s_lcmp dX12_in_9 ?_
    refine s_if_gt (tgt := 17) dX12_in_10 (by decide) (fun c2 => ?_) (fun c2 => ?_)
    · refine s_iconst (v := 0) dX12_in_17 (by decide) ?_
      exact s_ireturn dX12_in_18 rfl (by decide)
    · refine s_iconst (v := 1) dX12_in_13 (by decide) ?_
      refine s_goto (tgt := 18) dX12_in_14 (by decide) ?_
      exact s_ireturn dX12_in_18 rfl (by decide)
theorem CX12_in {l : Launch} {g : qG} {d : Nat} (x0 : Int64) (x2 : Int64) (x4 : Int64) : qCt l g mX12_in d 0 0 cvI [.long x0, .long x2, .long x4] (FX12_in x0 x2 x4) := s_of pn_X12 (Nat.le_of_ble_eq_true rfl) fun n => FX12_in_ok x0 x2 x4
def FX12_refuses (x0 : Nat) (x1 : Int32) (x2 : Int32) : qP Int32 :=
qb (gR 12 x0 4) fun v1 =>
qb (aI v1 x1) fun v2 =>
qb (gI 12 x0 5) fun v3 =>
if v3 = 0 then (
qb (sI v1 x1 (v2 + (1 : Int32))) fun _ =>
qr x2) else (
qb (sI v1 x1 (v2 + (0 : Int32))) fun _ =>
qr x2)
set_option maxRecDepth 100000 in
set_option maxHeartbeats 4000000 in
theorem FX12_refuses_ok {l : Launch} {g : qG} {d n : Nat} (x0 : Nat) (x1 : Int32) (x2 : Int32) : qS l g mX12_refuses d n 0 0 0 0 cvI 0 [(0, .ref x0), (1, .int x1), (2, .int x2)] [] (FX12_refuses x0 x1 x2) := by
  unfold FX12_refuses
  refine s_aload_n dX12_refuses_0 rfl ?_
  refine s_gR dX12_refuses_1 fX12_23 fun v1 => ?_
  refine s_iload_n dX12_refuses_4 rfl ?_
  refine s_dup2 dX12_refuses_5 rfl rfl ?_
  refine s_aI dX12_refuses_6 fun v2 => ?_
  refine s_aload_n dX12_refuses_7 rfl ?_
  refine s_gI dX12_refuses_8 fX12_51 fun v3 => ?_
  refine s_if_eq (tgt := 18) dX12_refuses_11 (by decide) (fun c1 => ?_) (fun c1 => ?_)
  · refine s_iconst (v := 1) dX12_refuses_18 (by decide) ?_
    refine s_iadd dX12_refuses_19 ?_
    refine s_sI dX12_refuses_20 ?_
    refine s_iload_n dX12_refuses_21 rfl ?_
    exact s_ireturn dX12_refuses_22 rfl rfl
  · refine s_iconst (v := 0) dX12_refuses_14 (by decide) ?_
    refine s_goto (tgt := 19) dX12_refuses_15 (by decide) ?_
    refine s_iadd dX12_refuses_19 ?_
    refine s_sI dX12_refuses_20 ?_
    refine s_iload_n dX12_refuses_21 rfl ?_
    exact s_ireturn dX12_refuses_22 rfl rfl
theorem CX12_refuses {l : Launch} {g : qG} {d : Nat} (x0 : Nat) (x1 : Int32) (x2 : Int32) : qCt l g mX12_refuses d 0 0 cvI [.ref x0, .int x1, .int x2] (FX12_refuses x0 x1 x2) := s_of pn_X12 (Nat.le_of_ble_eq_true rfl) fun n => FX12_refuses_ok x0 x1 x2
def FX12_bad (x0 : Nat) : qP Int32 :=
qb (qcl 12 x0) fun _ => qb (FX12_refuses x0 (0 : Int32) (-2 : Int32)) fun v1 =>
qr v1
set_option maxRecDepth 100000 in
set_option maxHeartbeats 4000000 in
theorem FX12_bad_ok {l : Launch} {g : qG} {d n : Nat} (x0 : Nat) : qS l g mX12_bad (d + 1) n 0 0 0 0 cvI 0 [(0, .ref x0)] [] (FX12_bad x0) := by
  unfold FX12_bad
  refine s_aload_n dX12_bad_0 rfl ?_
  refine s_iconst (v := 0) dX12_bad_1 (by decide) ?_
  refine s_bipush (v := -2) dX12_bad_2 (by decide) ?_
  refine s_virtI (as := [.int (0 : Int32), .int (-2 : Int32)]) (rest := []) dX12_bad_4 vX12_55 (CX12_refuses _ _ _) (Nat.le_of_ble_eq_true rfl) ⟨Nat.le_refl _, Nat.le_refl _⟩ fun v1 => ?_
  exact s_ireturn dX12_bad_7 rfl rfl
theorem CX12_bad {l : Launch} {g : qG} {d : Nat} (x0 : Nat) : qCt l g mX12_bad (d + 1) 0 0 cvI [.ref x0] (FX12_bad x0) := s_of pn_X12 (Nat.le_of_ble_eq_true rfl) fun n => FX12_bad_ok x0
def FX12_no (x0 : Nat) : qP Int32 :=
qb (qcl 12 x0) fun _ => qb (FX12_refuses x0 (1 : Int32) (-3 : Int32)) fun v1 =>
qr v1
set_option maxRecDepth 100000 in
set_option maxHeartbeats 4000000 in
theorem FX12_no_ok {l : Launch} {g : qG} {d n : Nat} (x0 : Nat) : qS l g mX12_no (d + 1) n 0 0 0 0 cvI 0 [(0, .ref x0)] [] (FX12_no x0) := by
  unfold FX12_no
  refine s_aload_n dX12_no_0 rfl ?_
  refine s_iconst (v := 1) dX12_no_1 (by decide) ?_
  refine s_bipush (v := -3) dX12_no_2 (by decide) ?_
  refine s_virtI (as := [.int (1 : Int32), .int (-3 : Int32)]) (rest := []) dX12_no_4 vX12_55 (CX12_refuses _ _ _) (Nat.le_of_ble_eq_true rfl) ⟨Nat.le_refl _, Nat.le_refl _⟩ fun v1 => ?_
  exact s_ireturn dX12_no_7 rfl rfl
theorem CX12_no {l : Launch} {g : qG} {d : Nat} (x0 : Nat) : qCt l g mX12_no (d + 1) 0 0 cvI [.ref x0] (FX12_no x0) := s_of pn_X12 (Nat.le_of_ble_eq_true rfl) fun n => FX12_no_ok x0
def FX12_full (x0 : Nat) : qP Int32 :=
qb (qcl 12 x0) fun _ => qb (FX12_refuses x0 (2 : Int32) (-4 : Int32)) fun v1 =>
qr v1
set_option maxRecDepth 100000 in
set_option maxHeartbeats 4000000 in
theorem FX12_full_ok {l : Launch} {g : qG} {d n : Nat} (x0 : Nat) : qS l g mX12_full (d + 1) n 0 0 0 0 cvI 0 [(0, .ref x0)] [] (FX12_full x0) := by
  unfold FX12_full
  refine s_aload_n dX12_full_0 rfl ?_
  refine s_iconst (v := 2) dX12_full_1 (by decide) ?_
  refine s_bipush (v := -4) dX12_full_2 (by decide) ?_
  refine s_virtI (as := [.int (2 : Int32), .int (-4 : Int32)]) (rest := []) dX12_full_4 vX12_55 (CX12_refuses _ _ _) (Nat.le_of_ble_eq_true rfl) ⟨Nat.le_refl _, Nat.le_refl _⟩ fun v1 => ?_
  exact s_ireturn dX12_full_7 rfl rfl
theorem CX12_full {l : Launch} {g : qG} {d : Nat} (x0 : Nat) : qCt l g mX12_full (d + 1) 0 0 cvI [.ref x0] (FX12_full x0) := s_of pn_X12 (Nat.le_of_ble_eq_true rfl) fun n => FX12_full_ok x0
def FX12_isPlot (x0 : Nat) (x1 : Int32) : qP Int32 :=
qb (gR 12 x0 0) fun v1 =>
qb (aI v1 (0 : Int32)) fun v2 =>
qb (FX12_in (x1).toInt64 (0 : Int64) ((v2 - (1 : Int32))).toInt64) fun v3 =>
qgd (v3 = 0 ∨ v3 = 1) (qr v3)
set_option maxRecDepth 100000 in
set_option maxHeartbeats 4000000 in
theorem FX12_isPlot_ok {l : Launch} {g : qG} {d n : Nat} (x0 : Nat) (x1 : Int32) : qS l g mX12_isPlot (d + 1) n 0 0 0 0 cvI 0 [(0, .ref x0), (1, .int x1)] [] (FX12_isPlot x0 x1) := by
  unfold FX12_isPlot
  refine s_iload_n dX12_isPlot_0 rfl ?_
  refine s_i2l dX12_isPlot_1 ?_
  refine s_lconst (v := 0) dX12_isPlot_2 (by decide) ?_
  refine s_aload_n dX12_isPlot_3 rfl ?_
  refine s_gR dX12_isPlot_4 fX12_7 fun v1 => ?_
  refine s_iconst (v := 0) dX12_isPlot_7 (by decide) ?_
  refine s_aI dX12_isPlot_8 fun v2 => ?_
  refine s_iconst (v := 1) dX12_isPlot_9 (by decide) ?_
  refine s_isub dX12_isPlot_10 ?_
  refine s_i2l dX12_isPlot_11 ?_
  refine s_staticI (as := [.long (x1).toInt64, .long (0 : Int64), .long ((v2 - (1 : Int32))).toInt64]) (rest := []) dX12_isPlot_12 sX12_59 (CX12_in _ _ _) (Nat.le_of_ble_eq_true rfl) ⟨Nat.le_refl _, Nat.le_refl _⟩ fun v3 => ?_
  exact s_zreturn dX12_isPlot_15 rfl
theorem CX12_isPlot {l : Launch} {g : qG} {d : Nat} (x0 : Nat) (x1 : Int32) : qCt l g mX12_isPlot (d + 1) 0 0 cvI [.ref x0, .int x1] (FX12_isPlot x0 x1) := s_of pn_X12 (Nat.le_of_ble_eq_true rfl) fun n => FX12_isPlot_ok x0 x1
def FX12_isShirt (x0 : Nat) (x1 : Int32) : qP Int32 :=
qb (gR 12 x0 0) fun v1 =>
qb (aI v1 (1 : Int32)) fun v2 =>
qb (FX12_in (x1).toInt64 (0 : Int64) ((v2 - (1 : Int32))).toInt64) fun v3 =>
qgd (v3 = 0 ∨ v3 = 1) (qr v3)
set_option maxRecDepth 100000 in
set_option maxHeartbeats 4000000 in
theorem FX12_isShirt_ok {l : Launch} {g : qG} {d n : Nat} (x0 : Nat) (x1 : Int32) : qS l g mX12_isShirt (d + 1) n 0 0 0 0 cvI 0 [(0, .ref x0), (1, .int x1)] [] (FX12_isShirt x0 x1) := by
  unfold FX12_isShirt
  refine s_iload_n dX12_isShirt_0 rfl ?_
  refine s_i2l dX12_isShirt_1 ?_
  refine s_lconst (v := 0) dX12_isShirt_2 (by decide) ?_
  refine s_aload_n dX12_isShirt_3 rfl ?_
  refine s_gR dX12_isShirt_4 fX12_7 fun v1 => ?_
  refine s_iconst (v := 1) dX12_isShirt_7 (by decide) ?_
  refine s_aI dX12_isShirt_8 fun v2 => ?_
  refine s_iconst (v := 1) dX12_isShirt_9 (by decide) ?_
  refine s_isub dX12_isShirt_10 ?_
  refine s_i2l dX12_isShirt_11 ?_
  refine s_staticI (as := [.long (x1).toInt64, .long (0 : Int64), .long ((v2 - (1 : Int32))).toInt64]) (rest := []) dX12_isShirt_12 sX12_59 (CX12_in _ _ _) (Nat.le_of_ble_eq_true rfl) ⟨Nat.le_refl _, Nat.le_refl _⟩ fun v3 => ?_
  exact s_zreturn dX12_isShirt_15 rfl
theorem CX12_isShirt {l : Launch} {g : qG} {d : Nat} (x0 : Nat) (x1 : Int32) : qCt l g mX12_isShirt (d + 1) 0 0 cvI [.ref x0, .int x1] (FX12_isShirt x0 x1) := s_of pn_X12 (Nat.le_of_ble_eq_true rfl) fun n => FX12_isShirt_ok x0 x1
def UX12_isNight_23 (x1 : Int32) : qP Int32 :=
if x1 = (7 : Int32) then (
qr (1 : Int32)) else (
qr (0 : Int32))
set_option maxRecDepth 100000 in
set_option maxHeartbeats 4000000 in
theorem UX12_isNight_23_ok {l : Launch} {g : qG} {d n : Nat} (x1 : Int32) : qS l g mX12_isNight (d + 2) n 0 0 0 0 cvI 23 [(1, .int x1)] [] (UX12_isNight_23 x1) := by
  unfold UX12_isNight_23
  refine s_iload_n dX12_isNight_23 rfl ?_
  refine s_bipush (v := 7) dX12_isNight_24 (by decide) ?_
  refine s_icmp_ne (tgt := 33) dX12_isNight_26 (by decide) (fun c1 => ?_) (fun c1 => ?_)
  · refine s_iconst (v := 1) dX12_isNight_29 (by decide) ?_
    refine s_goto (tgt := 34) dX12_isNight_30 (by decide) ?_
    exact s_ireturn dX12_isNight_34 rfl (by decide)
  · refine s_iconst (v := 0) dX12_isNight_33 (by decide) ?_
    exact s_ireturn dX12_isNight_34 rfl (by decide)
def FX12_isNight (x0 : Nat) (x1 : Int32) : qP Int32 :=
qb (qcl 12 x0) fun _ => qb (FX12_isPlot x0 x1) fun v1 =>
if v1 = 0 then (
qb (qcl 12 x0) fun _ => qb (FX12_isShirt x0 (x1 - (3 : Int32))) fun v2 =>
if v2 = 0 then (
UX12_isNight_23 x1) else (
if (3 : Int32) ≤ x1 then (
qr (1 : Int32)) else (
UX12_isNight_23 x1))) else (
qr (1 : Int32))
set_option maxRecDepth 100000 in
set_option maxHeartbeats 4000000 in
theorem FX12_isNight_ok {l : Launch} {g : qG} {d n : Nat} (x0 : Nat) (x1 : Int32) : qS l g mX12_isNight (d + 2) n 0 0 0 0 cvI 0 [(0, .ref x0), (1, .int x1)] [] (FX12_isNight x0 x1) := by
  unfold FX12_isNight
  refine s_aload_n dX12_isNight_0 rfl ?_
  refine s_iload_n dX12_isNight_1 rfl ?_
  refine s_virtI (as := [.int x1]) (rest := []) dX12_isNight_2 vX12_63 (CX12_isPlot _ _) (Nat.le_of_ble_eq_true rfl) ⟨Nat.le_refl _, Nat.le_refl _⟩ fun v1 => ?_
  refine s_if_ne (tgt := 29) dX12_isNight_5 (by decide) (fun c1 => ?_) (fun c1 => ?_)
  · refine s_aload_n dX12_isNight_8 rfl ?_
    refine s_iload_n dX12_isNight_9 rfl ?_
    refine s_iconst (v := 3) dX12_isNight_10 (by decide) ?_
    refine s_isub dX12_isNight_11 ?_
    refine s_virtI (as := [.int (x1 - (3 : Int32))]) (rest := []) dX12_isNight_12 vX12_67 (CX12_isShirt _ _) (Nat.le_of_ble_eq_true rfl) ⟨Nat.le_refl _, Nat.le_refl _⟩ fun v2 => ?_
    refine s_if_eq (tgt := 23) dX12_isNight_15 (by decide) (fun c2 => ?_) (fun c2 => ?_)
    · refine s_locals [1] rfl ?_
      exact UX12_isNight_23_ok x1
    · refine s_iload_n dX12_isNight_18 rfl ?_
      refine s_iconst (v := 3) dX12_isNight_19 (by decide) ?_
      refine s_icmp_ge (tgt := 29) dX12_isNight_20 (by decide) (fun c3 => ?_) (fun c3 => ?_)
      · refine s_iconst (v := 1) dX12_isNight_29 (by decide) ?_
        refine s_goto (tgt := 34) dX12_isNight_30 (by decide) ?_
        exact s_ireturn dX12_isNight_34 rfl (by decide)
      · refine s_locals [1] rfl ?_
        exact UX12_isNight_23_ok x1
  · refine s_iconst (v := 1) dX12_isNight_29 (by decide) ?_
    refine s_goto (tgt := 34) dX12_isNight_30 (by decide) ?_
    exact s_ireturn dX12_isNight_34 rfl (by decide)
theorem CX12_isNight {l : Launch} {g : qG} {d : Nat} (x0 : Nat) (x1 : Int32) : qCt l g mX12_isNight (d + 2) 0 0 cvI [.ref x0, .int x1] (FX12_isNight x0 x1) := s_of pn_X12 (Nat.le_of_ble_eq_true rfl) fun n => FX12_isNight_ok x0 x1
def FX12_areShirts (x0 : Nat) (x1 : Int32) : qP Int32 :=
qb (gR 12 x0 0) fun v1 =>
qb (aI v1 (1 : Int32)) fun v2 =>
qb (FX12_in (x1).toInt64 (0 : Int64) ((((1 : Int32) <<< (v2 &&& 31)) - (1 : Int32))).toInt64) fun v3 =>
qgd (v3 = 0 ∨ v3 = 1) (qr v3)
set_option maxRecDepth 100000 in
set_option maxHeartbeats 4000000 in
theorem FX12_areShirts_ok {l : Launch} {g : qG} {d n : Nat} (x0 : Nat) (x1 : Int32) : qS l g mX12_areShirts (d + 1) n 0 0 0 0 cvI 0 [(0, .ref x0), (1, .int x1)] [] (FX12_areShirts x0 x1) := by
  unfold FX12_areShirts
  refine s_iload_n dX12_areShirts_0 rfl ?_
  refine s_i2l dX12_areShirts_1 ?_
  refine s_lconst (v := 0) dX12_areShirts_2 (by decide) ?_
  refine s_iconst (v := 1) dX12_areShirts_3 (by decide) ?_
  refine s_aload_n dX12_areShirts_4 rfl ?_
  refine s_gR dX12_areShirts_5 fX12_7 fun v1 => ?_
  refine s_iconst (v := 1) dX12_areShirts_8 (by decide) ?_
  refine s_aI dX12_areShirts_9 fun v2 => ?_
  refine s_ishl dX12_areShirts_10 ?_
  refine s_iconst (v := 1) dX12_areShirts_11 (by decide) ?_
  refine s_isub dX12_areShirts_12 ?_
  refine s_i2l dX12_areShirts_13 ?_
  refine s_staticI (as := [.long (x1).toInt64, .long (0 : Int64), .long ((((1 : Int32) <<< (v2 &&& 31)) - (1 : Int32))).toInt64]) (rest := []) dX12_areShirts_14 sX12_59 (CX12_in _ _ _) (Nat.le_of_ble_eq_true rfl) ⟨Nat.le_refl _, Nat.le_refl _⟩ fun v3 => ?_
  exact s_zreturn dX12_areShirts_17 rfl
theorem CX12_areShirts {l : Launch} {g : qG} {d : Nat} (x0 : Nat) (x1 : Int32) : qCt l g mX12_areShirts (d + 1) 0 0 cvI [.ref x0, .int x1] (FX12_areShirts x0 x1) := s_of pn_X12 (Nat.le_of_ble_eq_true rfl) fun n => FX12_areShirts_ok x0 x1
def UX12_plot_24 (x0 : Nat) : qP Int32 :=
qb (qcl 12 x0) fun _ => qb (FX12_bad x0) fun v1 =>
qr v1
set_option maxRecDepth 100000 in
set_option maxHeartbeats 4000000 in
theorem UX12_plot_24_ok {l : Launch} {g : qG} {d n : Nat} (x0 : Nat) : qS l g mX12_plot (d + 2) n 0 0 0 0 cvI 24 [(0, .ref x0)] [] (UX12_plot_24 x0) := by
  unfold UX12_plot_24
  refine s_aload_n dX12_plot_24 rfl ?_
  refine s_virtI (as := []) (rest := []) dX12_plot_25 vX12_74 (CX12_bad _) (Nat.le_of_ble_eq_true rfl) ⟨Nat.le_refl _, Nat.le_refl _⟩ fun v1 => ?_
  exact s_ireturn dX12_plot_28 rfl rfl
def FX12_plot (x0 : Nat) (x1 : Int32) (x2 : Int32) : qP Int32 :=
qb (FX12_in (x1).toInt64 (0 : Int64) (5 : Int64)) fun v1 =>
if v1 = 0 then (
UX12_plot_24 x0) else (
qb (FX12_in (x2).toInt64 (0 : Int64) (20 : Int64)) fun v2 =>
if v2 = 0 then (
UX12_plot_24 x0) else (
qb (gR 12 x0 0) fun v3 =>
qb (aI v3 (0 : Int32)) fun v4 =>
if v4 = (3 : Int32) then (
qb (qcl 12 x0) fun _ => qb (FX12_full x0) fun v5 =>
qr v5) else (
qb (gR 12 x0 0) fun v6 =>
qb (aI v6 (0 : Int32)) fun v7 =>
qb (gR 12 x0 0) fun v8 =>
qb (sI v8 ((16 : Int32) + ((3 : Int32) * v7)) x1) fun _ =>
qb (gR 12 x0 0) fun v9 =>
qb (sI v9 (((16 : Int32) + ((3 : Int32) * v7)) + (1 : Int32)) x2) fun _ =>
qb (gR 12 x0 0) fun v10 =>
qb (sI v10 (((16 : Int32) + ((3 : Int32) * v7)) + (2 : Int32)) (0 : Int32)) fun _ =>
qb (gR 12 x0 0) fun v11 =>
qb (sI v11 ((9 : Int32) + v7) x2) fun _ =>
qb (gR 12 x0 0) fun v12 =>
qb (aI v12 (0 : Int32)) fun v13 =>
qb (sI v12 (0 : Int32) (v13 + (1 : Int32))) fun _ =>
qb (gR 12 x0 0) fun v14 =>
qb (sI v14 (2 : Int32) (0 : Int32)) fun _ =>
qr v7)))
set_option maxRecDepth 100000 in
set_option maxHeartbeats 4000000 in
theorem FX12_plot_ok {l : Launch} {g : qG} {d n : Nat} (x0 : Nat) (x1 : Int32) (x2 : Int32) : qS l g mX12_plot (d + 2) n 0 0 0 0 cvI 0 [(0, .ref x0), (1, .int x1), (2, .int x2)] [] (FX12_plot x0 x1 x2) := by
  unfold FX12_plot
  refine s_iload_n dX12_plot_0 rfl ?_
  refine s_i2l dX12_plot_1 ?_
  refine s_lconst (v := 0) dX12_plot_2 (by decide) ?_
  refine s_ldc2 dX12_plot_3 lX12_70 ?_
  refine s_staticI (as := [.long (x1).toInt64, .long (0 : Int64), .long (5 : Int64)]) (rest := []) dX12_plot_6 sX12_59 (CX12_in _ _ _) (Nat.le_of_ble_eq_true rfl) ⟨Nat.le_refl _, Nat.le_refl _⟩ fun v1 => ?_
  refine s_if_eq (tgt := 24) dX12_plot_9 (by decide) (fun c1 => ?_) (fun c1 => ?_)
  · refine s_locals [0] rfl ?_
    exact UX12_plot_24_ok x0
  · refine s_iload_n dX12_plot_12 rfl ?_
    refine s_i2l dX12_plot_13 ?_
    refine s_lconst (v := 0) dX12_plot_14 (by decide) ?_
    refine s_ldc2 dX12_plot_15 lX12_72 ?_
    refine s_staticI (as := [.long (x2).toInt64, .long (0 : Int64), .long (20 : Int64)]) (rest := []) dX12_plot_18 sX12_59 (CX12_in _ _ _) (Nat.le_of_ble_eq_true rfl) ⟨Nat.le_refl _, Nat.le_refl _⟩ fun v2 => ?_
    refine s_if_ne (tgt := 29) dX12_plot_21 (by decide) (fun c2 => ?_) (fun c2 => ?_)
    · refine s_locals [0] rfl ?_
      exact UX12_plot_24_ok x0
    · refine s_aload_n dX12_plot_29 rfl ?_
      refine s_gR dX12_plot_30 fX12_7 fun v3 => ?_
      refine s_iconst (v := 0) dX12_plot_33 (by decide) ?_
      refine s_aI dX12_plot_34 fun v4 => ?_
      refine s_iconst (v := 3) dX12_plot_35 (by decide) ?_
      refine s_icmp_ne (tgt := 44) dX12_plot_36 (by decide) (fun c3 => ?_) (fun c3 => ?_)
      · refine s_aload_n dX12_plot_39 rfl ?_
        refine s_virtI (as := []) (rest := []) dX12_plot_40 vX12_78 (CX12_full _) (Nat.le_of_ble_eq_true rfl) ⟨Nat.le_refl _, Nat.le_refl _⟩ fun v5 => ?_
        exact s_ireturn dX12_plot_43 rfl rfl
      · refine s_aload_n dX12_plot_44 rfl ?_
        refine s_gR dX12_plot_45 fX12_7 fun v6 => ?_
        refine s_iconst (v := 0) dX12_plot_48 (by decide) ?_
        refine s_aI dX12_plot_49 fun v7 => ?_
        refine s_istore_n (lv' := [(3, .int v7), (0, .ref x0), (1, .int x1), (2, .int x2)]) dX12_plot_50 (by decide) rfl ?_
        refine s_aload_n dX12_plot_51 rfl ?_
        refine s_gR dX12_plot_52 fX12_7 fun v8 => ?_
        refine s_bipush (v := 16) dX12_plot_55 (by decide) ?_
        refine s_iconst (v := 3) dX12_plot_57 (by decide) ?_
        refine s_iload_n dX12_plot_58 rfl ?_
        refine s_imul dX12_plot_59 ?_
        refine s_iadd dX12_plot_60 ?_
        refine s_iload_n dX12_plot_61 rfl ?_
        refine s_sI dX12_plot_62 ?_
        refine s_aload_n dX12_plot_63 rfl ?_
        refine s_gR dX12_plot_64 fX12_7 fun v9 => ?_
        refine s_bipush (v := 16) dX12_plot_67 (by decide) ?_
        refine s_iconst (v := 3) dX12_plot_69 (by decide) ?_
        refine s_iload_n dX12_plot_70 rfl ?_
        refine s_imul dX12_plot_71 ?_
        refine s_iadd dX12_plot_72 ?_
        refine s_iconst (v := 1) dX12_plot_73 (by decide) ?_
        refine s_iadd dX12_plot_74 ?_
        refine s_iload_n dX12_plot_75 rfl ?_
        refine s_sI dX12_plot_76 ?_
        refine s_aload_n dX12_plot_77 rfl ?_
        refine s_gR dX12_plot_78 fX12_7 fun v10 => ?_
        refine s_bipush (v := 16) dX12_plot_81 (by decide) ?_
        refine s_iconst (v := 3) dX12_plot_83 (by decide) ?_
        refine s_iload_n dX12_plot_84 rfl ?_
        refine s_imul dX12_plot_85 ?_
        refine s_iadd dX12_plot_86 ?_
        refine s_iconst (v := 2) dX12_plot_87 (by decide) ?_
        refine s_iadd dX12_plot_88 ?_
        refine s_iconst (v := 0) dX12_plot_89 (by decide) ?_
        refine s_sI dX12_plot_90 ?_
        refine s_aload_n dX12_plot_91 rfl ?_
        refine s_gR dX12_plot_92 fX12_7 fun v11 => ?_
        refine s_bipush (v := 9) dX12_plot_95 (by decide) ?_
        refine s_iload_n dX12_plot_97 rfl ?_
        refine s_iadd dX12_plot_98 ?_
        refine s_iload_n dX12_plot_99 rfl ?_
        refine s_sI dX12_plot_100 ?_
        refine s_aload_n dX12_plot_101 rfl ?_
        refine s_gR dX12_plot_102 fX12_7 fun v12 => ?_
        refine s_iconst (v := 0) dX12_plot_105 (by decide) ?_
        refine s_dup2 dX12_plot_106 rfl rfl ?_
        refine s_aI dX12_plot_107 fun v13 => ?_
        refine s_iconst (v := 1) dX12_plot_108 (by decide) ?_
        refine s_iadd dX12_plot_109 ?_
        refine s_sI dX12_plot_110 ?_
        refine s_aload_n dX12_plot_111 rfl ?_
        refine s_gR dX12_plot_112 fX12_7 fun v14 => ?_
        refine s_iconst (v := 2) dX12_plot_115 (by decide) ?_
        refine s_iconst (v := 0) dX12_plot_116 (by decide) ?_
        refine s_sI dX12_plot_117 ?_
        refine s_iload_n dX12_plot_118 rfl ?_
        exact s_ireturn dX12_plot_119 rfl rfl
theorem CX12_plot {l : Launch} {g : qG} {d : Nat} (x0 : Nat) (x1 : Int32) (x2 : Int32) : qCt l g mX12_plot (d + 2) 0 0 cvI [.ref x0, .int x1, .int x2] (FX12_plot x0 x1 x2) := s_of pn_X12 (Nat.le_of_ble_eq_true rfl) fun n => FX12_plot_ok x0 x1 x2
def FX12_shirt (x0 : Nat) (x1 : Int32) : qP Int32 :=
qb (FX12_in (x1).toInt64 (1 : Int64) (12 : Int64)) fun v1 =>
if v1 = 0 then (
qb (qcl 12 x0) fun _ => qb (FX12_bad x0) fun v2 =>
qr v2) else (
qb (gR 12 x0 0) fun v3 =>
qb (aI v3 (1 : Int32)) fun v4 =>
if v4 = (4 : Int32) then (
qb (qcl 12 x0) fun _ => qb (FX12_full x0) fun v5 =>
qr v5) else (
qb (gR 12 x0 0) fun v6 =>
qb (gR 12 x0 0) fun v7 =>
qb (aI v7 (1 : Int32)) fun v8 =>
qb (sI v6 ((25 : Int32) + v8) x1) fun _ =>
qb (gR 12 x0 0) fun v9 =>
qb (gR 12 x0 0) fun v10 =>
qb (aI v10 (1 : Int32)) fun v11 =>
qb (sI v9 ((12 : Int32) + v11) (0 : Int32)) fun _ =>
qb (gR 12 x0 0) fun v12 =>
qb (aI v12 (1 : Int32)) fun v13 =>
qb (sI v12 (1 : Int32) (v13 + (1 : Int32))) fun _ =>
qb (gR 12 x0 0) fun v14 =>
qb (sI v14 (2 : Int32) (0 : Int32)) fun _ =>
qb (gR 12 x0 0) fun v15 =>
qb (aI v15 (1 : Int32)) fun v16 =>
qr (v16 - (1 : Int32))))
set_option maxRecDepth 100000 in
set_option maxHeartbeats 4000000 in
theorem FX12_shirt_ok {l : Launch} {g : qG} {d n : Nat} (x0 : Nat) (x1 : Int32) : qS l g mX12_shirt (d + 2) n 0 0 0 0 cvI 0 [(0, .ref x0), (1, .int x1)] [] (FX12_shirt x0 x1) := by
  unfold FX12_shirt
  refine s_iload_n dX12_shirt_0 rfl ?_
  refine s_i2l dX12_shirt_1 ?_
  refine s_lconst (v := 1) dX12_shirt_2 (by decide) ?_
  refine s_ldc2 dX12_shirt_3 lX12_81 ?_
  refine s_staticI (as := [.long (x1).toInt64, .long (1 : Int64), .long (12 : Int64)]) (rest := []) dX12_shirt_6 sX12_59 (CX12_in _ _ _) (Nat.le_of_ble_eq_true rfl) ⟨Nat.le_refl _, Nat.le_refl _⟩ fun v1 => ?_
  refine s_if_ne (tgt := 17) dX12_shirt_9 (by decide) (fun c1 => ?_) (fun c1 => ?_)
  · refine s_aload_n dX12_shirt_12 rfl ?_
    refine s_virtI (as := []) (rest := []) dX12_shirt_13 vX12_74 (CX12_bad _) (Nat.le_of_ble_eq_true rfl) ⟨Nat.le_refl _, Nat.le_refl _⟩ fun v2 => ?_
    exact s_ireturn dX12_shirt_16 rfl rfl
  · refine s_aload_n dX12_shirt_17 rfl ?_
    refine s_gR dX12_shirt_18 fX12_7 fun v3 => ?_
    refine s_iconst (v := 1) dX12_shirt_21 (by decide) ?_
    refine s_aI dX12_shirt_22 fun v4 => ?_
    refine s_iconst (v := 4) dX12_shirt_23 (by decide) ?_
    refine s_icmp_ne (tgt := 32) dX12_shirt_24 (by decide) (fun c2 => ?_) (fun c2 => ?_)
    · refine s_aload_n dX12_shirt_27 rfl ?_
      refine s_virtI (as := []) (rest := []) dX12_shirt_28 vX12_78 (CX12_full _) (Nat.le_of_ble_eq_true rfl) ⟨Nat.le_refl _, Nat.le_refl _⟩ fun v5 => ?_
      exact s_ireturn dX12_shirt_31 rfl rfl
    · refine s_aload_n dX12_shirt_32 rfl ?_
      refine s_gR dX12_shirt_33 fX12_7 fun v6 => ?_
      refine s_bipush (v := 25) dX12_shirt_36 (by decide) ?_
      refine s_aload_n dX12_shirt_38 rfl ?_
      refine s_gR dX12_shirt_39 fX12_7 fun v7 => ?_
      refine s_iconst (v := 1) dX12_shirt_42 (by decide) ?_
      refine s_aI dX12_shirt_43 fun v8 => ?_
      refine s_iadd dX12_shirt_44 ?_
      refine s_iload_n dX12_shirt_45 rfl ?_
      refine s_sI dX12_shirt_46 ?_
      refine s_aload_n dX12_shirt_47 rfl ?_
      refine s_gR dX12_shirt_48 fX12_7 fun v9 => ?_
      refine s_bipush (v := 12) dX12_shirt_51 (by decide) ?_
      refine s_aload_n dX12_shirt_53 rfl ?_
      refine s_gR dX12_shirt_54 fX12_7 fun v10 => ?_
      refine s_iconst (v := 1) dX12_shirt_57 (by decide) ?_
      refine s_aI dX12_shirt_58 fun v11 => ?_
      refine s_iadd dX12_shirt_59 ?_
      refine s_iconst (v := 0) dX12_shirt_60 (by decide) ?_
      refine s_sI dX12_shirt_61 ?_
      refine s_aload_n dX12_shirt_62 rfl ?_
      refine s_gR dX12_shirt_63 fX12_7 fun v12 => ?_
      refine s_iconst (v := 1) dX12_shirt_66 (by decide) ?_
      refine s_dup2 dX12_shirt_67 rfl rfl ?_
      refine s_aI dX12_shirt_68 fun v13 => ?_
      refine s_iconst (v := 1) dX12_shirt_69 (by decide) ?_
      refine s_iadd dX12_shirt_70 ?_
      refine s_sI dX12_shirt_71 ?_
      refine s_aload_n dX12_shirt_72 rfl ?_
      refine s_gR dX12_shirt_73 fX12_7 fun v14 => ?_
      refine s_iconst (v := 2) dX12_shirt_76 (by decide) ?_
      refine s_iconst (v := 0) dX12_shirt_77 (by decide) ?_
      refine s_sI dX12_shirt_78 ?_
      refine s_aload_n dX12_shirt_79 rfl ?_
      refine s_gR dX12_shirt_80 fX12_7 fun v15 => ?_
      refine s_iconst (v := 1) dX12_shirt_83 (by decide) ?_
      refine s_aI dX12_shirt_84 fun v16 => ?_
      refine s_iconst (v := 1) dX12_shirt_85 (by decide) ?_
      refine s_isub dX12_shirt_86 ?_
      exact s_ireturn dX12_shirt_87 rfl rfl
theorem CX12_shirt {l : Launch} {g : qG} {d : Nat} (x0 : Nat) (x1 : Int32) : qCt l g mX12_shirt (d + 2) 0 0 cvI [.ref x0, .int x1] (FX12_shirt x0 x1) := s_of pn_X12 (Nat.le_of_ble_eq_true rfl) fun n => FX12_shirt_ok x0 x1
def UX12_picks_10 (x0 : Int32) (x1 : Int32) (s0 : Int32) : qP Int32 :=
if x0 = (2 : Int32) then (
qr s0) else (
if x0 = (3 : Int32) then (
qr s0) else (
if x0 = (5 : Int32) then (
qr s0) else (
if x0 = (4 : Int32) then (
if (x1 - x1 / (3 : Int32) * (3 : Int32)) = (2 : Int32) then (
qr (0 : Int32)) else (
qr (3 : Int32))) else (
qr (3 : Int32)))))
set_option maxRecDepth 100000 in
set_option maxHeartbeats 4000000 in
theorem UX12_picks_10_ok {l : Launch} {g : qG} {d n : Nat} (x0 : Int32) (x1 : Int32) (s0 : Int32) : qS l g mX12_picks d n 0 0 0 0 cvI 10 [(0, .int x0), (1, .int x1)] [.int s0] (UX12_picks_10 x0 x1 s0) := by
  unfold UX12_picks_10
  refine s_istore_n (lv' := [(2, .int s0), (0, .int x0), (1, .int x1)]) dX12_picks_10 (by decide) rfl ?_
  refine s_iload_n dX12_picks_11 rfl ?_
  refine s_iconst (v := 2) dX12_picks_12 (by decide) ?_
  refine s_icmp_eq (tgt := 26) dX12_picks_13 (by decide) (fun c1 => ?_) (fun c1 => ?_)
  · refine s_iload_n dX12_picks_26 rfl ?_
    refine s_goto (tgt := 47) dX12_picks_27 (by decide) ?_
    exact s_ireturn dX12_picks_47 rfl rfl
  · refine s_iload_n dX12_picks_16 rfl ?_
    refine s_iconst (v := 3) dX12_picks_17 (by decide) ?_
    refine s_icmp_eq (tgt := 26) dX12_picks_18 (by decide) (fun c2 => ?_) (fun c2 => ?_)
    · refine s_iload_n dX12_picks_26 rfl ?_
      refine s_goto (tgt := 47) dX12_picks_27 (by decide) ?_
      exact s_ireturn dX12_picks_47 rfl rfl
    · refine s_iload_n dX12_picks_21 rfl ?_
      refine s_iconst (v := 5) dX12_picks_22 (by decide) ?_
      refine s_icmp_ne (tgt := 30) dX12_picks_23 (by decide) (fun c3 => ?_) (fun c3 => ?_)
      · refine s_iload_n dX12_picks_26 rfl ?_
        refine s_goto (tgt := 47) dX12_picks_27 (by decide) ?_
        exact s_ireturn dX12_picks_47 rfl rfl
      · refine s_iload_n dX12_picks_30 rfl ?_
        refine s_iconst (v := 4) dX12_picks_31 (by decide) ?_
        refine s_icmp_ne (tgt := 46) dX12_picks_32 (by decide) (fun c4 => ?_) (fun c4 => ?_)
        · refine s_iload_n dX12_picks_35 rfl ?_
          refine s_iconst (v := 3) dX12_picks_36 (by decide) ?_
          refine s_irem dX12_picks_37 (by decide) ?_
          refine s_iconst (v := 2) dX12_picks_38 (by decide) ?_
          refine s_icmp_ne (tgt := 46) dX12_picks_39 (by decide) (fun c5 => ?_) (fun c5 => ?_)
          · refine s_iconst (v := 0) dX12_picks_42 (by decide) ?_
            refine s_goto (tgt := 47) dX12_picks_43 (by decide) ?_
            exact s_ireturn dX12_picks_47 rfl rfl
          · refine s_iconst (v := 3) dX12_picks_46 (by decide) ?_
            exact s_ireturn dX12_picks_47 rfl rfl
        · refine s_iconst (v := 3) dX12_picks_46 (by decide) ?_
          exact s_ireturn dX12_picks_47 rfl rfl
def FX12_picks (x0 : Int32) (x1 : Int32) : qP Int32 :=
if x0 = (5 : Int32) then (
UX12_picks_10 x0 x1 (2 : Int32)) else (
UX12_picks_10 x0 x1 (4 : Int32))
set_option maxRecDepth 100000 in
set_option maxHeartbeats 4000000 in
theorem FX12_picks_ok {l : Launch} {g : qG} {d n : Nat} (x0 : Int32) (x1 : Int32) : qS l g mX12_picks d n 0 0 0 0 cvI 0 [(0, .int x0), (1, .int x1)] [] (FX12_picks x0 x1) := by
  unfold FX12_picks
  refine s_iload_n dX12_picks_0 rfl ?_
  refine s_iconst (v := 5) dX12_picks_1 (by decide) ?_
  refine s_icmp_ne (tgt := 9) dX12_picks_2 (by decide) (fun c1 => ?_) (fun c1 => ?_)
  · refine s_iconst (v := 2) dX12_picks_5 (by decide) ?_
    refine s_goto (tgt := 10) dX12_picks_6 (by decide) ?_
    exact UX12_picks_10_ok x0 x1 (2 : Int32)
  · refine s_iconst (v := 4) dX12_picks_9 (by decide) ?_
    exact UX12_picks_10_ok x0 x1 (4 : Int32)
theorem CX12_picks {l : Launch} {g : qG} {d : Nat} (x0 : Int32) (x1 : Int32) : qCt l g mX12_picks d 0 0 cvI [.int x0, .int x1] (FX12_picks x0 x1) := s_of pn_X12 (Nat.le_of_ble_eq_true rfl) fun n => FX12_picks_ok x0 x1
def FX12_hurts (x0 : Int32) : qP Int32 :=
if x0 = (1 : Int32) then (
qr (0 : Int32)) else (
if x0 = (4 : Int32) then (
qr (0 : Int32)) else (
if x0 = (3 : Int32) then (
qr (3 : Int32)) else (
qr (1 : Int32))))
set_option maxRecDepth 100000 in
set_option maxHeartbeats 4000000 in
theorem FX12_hurts_ok {l : Launch} {g : qG} {d n : Nat} (x0 : Int32) : qS l g mX12_hurts d n 0 0 0 0 cvI 0 [(0, .int x0)] [] (FX12_hurts x0) := by
  unfold FX12_hurts
  refine s_iload_n dX12_hurts_0 rfl ?_
  refine s_iconst (v := 1) dX12_hurts_1 (by decide) ?_
  refine s_icmp_eq (tgt := 10) dX12_hurts_2 (by decide) (fun c1 => ?_) (fun c1 => ?_)
  · refine s_iconst (v := 0) dX12_hurts_10 (by decide) ?_
    refine s_goto (tgt := 24) dX12_hurts_11 (by decide) ?_
    exact s_ireturn dX12_hurts_24 rfl rfl
  · refine s_iload_n dX12_hurts_5 rfl ?_
    refine s_iconst (v := 4) dX12_hurts_6 (by decide) ?_
    refine s_icmp_ne (tgt := 14) dX12_hurts_7 (by decide) (fun c2 => ?_) (fun c2 => ?_)
    · refine s_iconst (v := 0) dX12_hurts_10 (by decide) ?_
      refine s_goto (tgt := 24) dX12_hurts_11 (by decide) ?_
      exact s_ireturn dX12_hurts_24 rfl rfl
    · refine s_iload_n dX12_hurts_14 rfl ?_
      refine s_iconst (v := 3) dX12_hurts_15 (by decide) ?_
      refine s_icmp_ne (tgt := 23) dX12_hurts_16 (by decide) (fun c3 => ?_) (fun c3 => ?_)
      · refine s_iconst (v := 3) dX12_hurts_19 (by decide) ?_
        refine s_goto (tgt := 24) dX12_hurts_20 (by decide) ?_
        exact s_ireturn dX12_hurts_24 rfl rfl
      · refine s_iconst (v := 1) dX12_hurts_23 (by decide) ?_
        exact s_ireturn dX12_hurts_24 rfl rfl
theorem CX12_hurts {l : Launch} {g : qG} {d : Nat} (x0 : Int32) : qCt l g mX12_hurts d 0 0 cvI [.int x0] (FX12_hurts x0) := s_of pn_X12 (Nat.le_of_ble_eq_true rfl) fun n => FX12_hurts_ok x0
def FX12_grows (x0 : Int32) (x1 : Int32) : qP Int32 :=
if x0 = (1 : Int32) then (
qr (x1 - x1 / (2 : Int32) * (2 : Int32))) else (
if x0 = (4 : Int32) then (
qr (x1 - x1 / (2 : Int32) * (2 : Int32))) else (
if x0 = (3 : Int32) then (
qr (2 : Int32)) else (
if x0 = (5 : Int32) then (
qr (2 : Int32)) else (
qr (1 : Int32)))))
set_option maxRecDepth 100000 in
set_option maxHeartbeats 4000000 in
theorem FX12_grows_ok {l : Launch} {g : qG} {d n : Nat} (x0 : Int32) (x1 : Int32) : qS l g mX12_grows d n 0 0 0 0 cvI 0 [(0, .int x0), (1, .int x1)] [] (FX12_grows x0 x1) := by
  unfold FX12_grows
  refine s_iload_n dX12_grows_0 rfl ?_
  refine s_iconst (v := 1) dX12_grows_1 (by decide) ?_
  refine s_icmp_eq (tgt := 10) dX12_grows_2 (by decide) (fun c1 => ?_) (fun c1 => ?_)
  · refine s_iload_n dX12_grows_10 rfl ?_
    refine s_iconst (v := 2) dX12_grows_11 (by decide) ?_
    refine s_irem dX12_grows_12 (by decide) ?_
    refine s_goto (tgt := 31) dX12_grows_13 (by decide) ?_
    exact s_ireturn dX12_grows_31 rfl rfl
  · refine s_iload_n dX12_grows_5 rfl ?_
    refine s_iconst (v := 4) dX12_grows_6 (by decide) ?_
    refine s_icmp_ne (tgt := 16) dX12_grows_7 (by decide) (fun c2 => ?_) (fun c2 => ?_)
    · refine s_iload_n dX12_grows_10 rfl ?_
      refine s_iconst (v := 2) dX12_grows_11 (by decide) ?_
      refine s_irem dX12_grows_12 (by decide) ?_
      refine s_goto (tgt := 31) dX12_grows_13 (by decide) ?_
      exact s_ireturn dX12_grows_31 rfl rfl
    · refine s_iload_n dX12_grows_16 rfl ?_
      refine s_iconst (v := 3) dX12_grows_17 (by decide) ?_
      refine s_icmp_eq (tgt := 26) dX12_grows_18 (by decide) (fun c3 => ?_) (fun c3 => ?_)
      · refine s_iconst (v := 2) dX12_grows_26 (by decide) ?_
        refine s_goto (tgt := 31) dX12_grows_27 (by decide) ?_
        exact s_ireturn dX12_grows_31 rfl rfl
      · refine s_iload_n dX12_grows_21 rfl ?_
        refine s_iconst (v := 5) dX12_grows_22 (by decide) ?_
        refine s_icmp_ne (tgt := 30) dX12_grows_23 (by decide) (fun c4 => ?_) (fun c4 => ?_)
        · refine s_iconst (v := 2) dX12_grows_26 (by decide) ?_
          refine s_goto (tgt := 31) dX12_grows_27 (by decide) ?_
          exact s_ireturn dX12_grows_31 rfl rfl
        · refine s_iconst (v := 1) dX12_grows_30 (by decide) ?_
          exact s_ireturn dX12_grows_31 rfl rfl
theorem CX12_grows {l : Launch} {g : qG} {d : Nat} (x0 : Int32) (x1 : Int32) : qCt l g mX12_grows d 0 0 cvI [.int x0, .int x1] (FX12_grows x0 x1) := s_of pn_X12 (Nat.le_of_ble_eq_true rfl) fun n => FX12_grows_ok x0 x1
def FX12_lesser (x0 : Int32) (x1 : Int32) : qP Int32 :=
if x1 ≤ x0 then (
qr x1) else (
qr x0)
set_option maxRecDepth 100000 in
set_option maxHeartbeats 4000000 in
theorem FX12_lesser_ok {l : Launch} {g : qG} {d n : Nat} (x0 : Int32) (x1 : Int32) : qS l g mX12_lesser d n 0 0 0 0 cvI 0 [(0, .int x0), (1, .int x1)] [] (FX12_lesser x0 x1) := by
  unfold FX12_lesser
  refine s_iload_n dX12_lesser_0 rfl ?_
  refine s_iload_n dX12_lesser_1 rfl ?_
  refine s_icmp_ge (tgt := 9) dX12_lesser_2 (by decide) (fun c1 => ?_) (fun c1 => ?_)
  · refine s_iload_n dX12_lesser_9 rfl ?_
    exact s_ireturn dX12_lesser_10 rfl rfl
  · refine s_iload_n dX12_lesser_5 rfl ?_
    refine s_goto (tgt := 10) dX12_lesser_6 (by decide) ?_
    exact s_ireturn dX12_lesser_10 rfl rfl
theorem CX12_lesser {l : Launch} {g : qG} {d : Nat} (x0 : Int32) (x1 : Int32) : qCt l g mX12_lesser d 0 0 cvI [.int x0, .int x1] (FX12_lesser x0 x1) := s_of pn_X12 (Nat.le_of_ble_eq_true rfl) fun n => FX12_lesser_ok x0 x1
def UX12_asNow_2 (R : Nat → Int32 → qP Unit) (x0 : Nat) (x1 : Int32) : qP Unit :=
if (10 : Int32) ≤ x1 then (
qr ()) else (
qb (gR 12 x0 8) fun v1 =>
qb (gR 12 x0 0) fun v2 =>
qb (aI v2 ((6 : Int32) + x1)) fun v3 =>
qb (sI v1 x1 v3) fun _ =>
R x0 (x1 + 1))
set_option maxRecDepth 100000 in
set_option maxHeartbeats 4000000 in
theorem UX12_asNow_2_ok {l : Launch} {g : qG} {d n : Nat} {R : Nat → Int32 → qP Unit} (hR : ∀ (x0 : Nat) (x1 : Int32), qS l g mX12_asNow d n 0 0 0 0 cvV 2 [(0, .ref x0), (1, .int x1)] [] (R x0 x1)) (x0 : Nat) (x1 : Int32) : qS l g mX12_asNow d n 0 0 0 0 cvV 2 [(0, .ref x0), (1, .int x1)] [] (UX12_asNow_2 R x0 x1) := by
  unfold UX12_asNow_2
  refine s_iload_n dX12_asNow_2 rfl ?_
  refine s_bipush (v := 10) dX12_asNow_3 (by decide) ?_
  refine s_icmp_ge (tgt := 29) dX12_asNow_5 (by decide) (fun c1 => ?_) (fun c1 => ?_)
  · exact s_return dX12_asNow_29 rfl
  · refine s_aload_n dX12_asNow_8 rfl ?_
    refine s_gR dX12_asNow_9 fX12_26 fun v1 => ?_
    refine s_iload_n dX12_asNow_12 rfl ?_
    refine s_aload_n dX12_asNow_13 rfl ?_
    refine s_gR dX12_asNow_14 fX12_7 fun v2 => ?_
    refine s_bipush (v := 6) dX12_asNow_17 (by decide) ?_
    refine s_iload_n dX12_asNow_19 rfl ?_
    refine s_iadd dX12_asNow_20 ?_
    refine s_aI dX12_asNow_21 fun v3 => ?_
    refine s_sI dX12_asNow_22 ?_
    refine s_iinc (lv' := [(1, .int (x1 + 1)), (0, .ref x0)]) dX12_asNow_23 rfl (by decide) rfl ?_
    refine s_goto (tgt := 2) dX12_asNow_26 (by decide) ?_
    refine s_locals [1, 0] rfl ?_
    exact hR x0 (x1 + 1)
def WX12_asNow_2 : Nat → Nat → Int32 → qP Unit
  | 0 => fun _ _ => qfail
  | N + 1 => fun x0 x1 => UX12_asNow_2 (WX12_asNow_2  N)  x0 x1
theorem WX12_asNow_2_ok {l : Launch} {g : qG} {d n : Nat} : ∀ (N : Nat) (x0 : Nat) (x1 : Int32), qS l g mX12_asNow d n 0 0 0 0 cvV 2 [(0, .ref x0), (1, .int x1)] [] (WX12_asNow_2  N x0 x1) := by
  intro N
  induction N with
  | zero => intro x0 x1; exact s_fail
  | succ N ih => intro x0 x1; exact UX12_asNow_2_ok ih  x0 x1
def FX12_asNow (x0 : Nat) : qP Unit :=
WX12_asNow_2 1000000 x0 (0 : Int32)
set_option maxRecDepth 100000 in
set_option maxHeartbeats 4000000 in
theorem FX12_asNow_ok {l : Launch} {g : qG} {d n : Nat} (x0 : Nat) : qS l g mX12_asNow d n 0 0 0 0 cvV 0 [(0, .ref x0)] [] (FX12_asNow x0) := by
  unfold FX12_asNow
  refine s_iconst (v := 0) dX12_asNow_0 (by decide) ?_
  refine s_istore_n (lv' := [(1, .int (0 : Int32)), (0, .ref x0)]) dX12_asNow_1 (by decide) rfl ?_
  refine s_locals [1, 0] rfl ?_
  exact WX12_asNow_2_ok  1000000 x0 (0 : Int32)
theorem CX12_asNow {l : Launch} {g : qG} {d : Nat} (x0 : Nat) : qCt l g mX12_asNow d 0 0 cvV [.ref x0] (FX12_asNow x0) := s_of pn_X12 (Nat.le_of_ble_eq_true rfl) fun n => FX12_asNow_ok x0
def UX12_goes_225 (R : Nat → Int32 → Int32 → Int32 → qP Int32) (K294 : Nat → Int32 → qP Int32) (x0 : Nat) (x2 : Int32) (x3 : Int32) (x4 : Int32) : qP Int32 :=
qb (gR 12 x0 0) fun v1 =>
qb (aI v1 (0 : Int32)) fun v2 =>
if v2 ≤ x4 then (
K294 x0 x3) else (
qb (gR 12 x0 8) fun v3 =>
qb (gR 12 x0 0) fun v4 =>
qb (aI v4 (((16 : Int32) + ((3 : Int32) * x4)) + (1 : Int32))) fun v5 =>
qb (gR 12 x0 8) fun v6 =>
qb (aI v6 ((3 : Int32) + x4)) fun v7 =>
qb (gR 12 x0 0) fun v8 =>
qb (aI v8 ((16 : Int32) + ((3 : Int32) * x4))) fun v9 =>
qb (FX12_grows v9 x2) fun v10 =>
qb (FX12_lesser v5 (v7 + v10)) fun v11 =>
qb (sI v3 ((3 : Int32) + x4) v11) fun _ =>
R x0 x2 x3 (x4 + 1))
set_option maxRecDepth 100000 in
set_option maxHeartbeats 4000000 in
theorem UX12_goes_225_ok {l : Launch} {g : qG} {d n : Nat} {R : Nat → Int32 → Int32 → Int32 → qP Int32} (hR : ∀ (x0 : Nat) (x2 : Int32) (x3 : Int32) (x4 : Int32), qS l g mX12_goes (d + 1) n 0 0 0 0 cvI 225 [(0, .ref x0), (2, .int x2), (3, .int x3), (4, .int x4)] [] (R x0 x2 x3 x4)) {K294 : Nat → Int32 → qP Int32} (hK294 : ∀ (x0 : Nat) (x3 : Int32), qS l g mX12_goes (d + 1) n 0 0 0 0 cvI 294 [(0, .ref x0), (3, .int x3)] [] (K294 x0 x3)) (x0 : Nat) (x2 : Int32) (x3 : Int32) (x4 : Int32) : qS l g mX12_goes (d + 1) n 0 0 0 0 cvI 225 [(0, .ref x0), (2, .int x2), (3, .int x3), (4, .int x4)] [] (UX12_goes_225 R K294 x0 x2 x3 x4) := by
  unfold UX12_goes_225
  refine s_iload dX12_goes_225 rfl ?_
  refine s_aload_n dX12_goes_227 rfl ?_
  refine s_gR dX12_goes_228 fX12_7 fun v1 => ?_
  refine s_iconst (v := 0) dX12_goes_231 (by decide) ?_
  refine s_aI dX12_goes_232 fun v2 => ?_
  refine s_icmp_ge (tgt := 294) dX12_goes_233 (by decide) (fun c1 => ?_) (fun c1 => ?_)
  · refine s_locals [0, 2] rfl ?_
    exact hK294 x0 x3
  · refine s_aload_n dX12_goes_236 rfl ?_
    refine s_gR dX12_goes_237 fX12_26 fun v3 => ?_
    refine s_iconst (v := 3) dX12_goes_240 (by decide) ?_
    refine s_iload dX12_goes_241 rfl ?_
    refine s_iadd dX12_goes_243 ?_
    refine s_aload_n dX12_goes_244 rfl ?_
    refine s_gR dX12_goes_245 fX12_7 fun v4 => ?_
    refine s_bipush (v := 16) dX12_goes_248 (by decide) ?_
    refine s_iconst (v := 3) dX12_goes_250 (by decide) ?_
    refine s_iload dX12_goes_251 rfl ?_
    refine s_imul dX12_goes_253 ?_
    refine s_iadd dX12_goes_254 ?_
    refine s_iconst (v := 1) dX12_goes_255 (by decide) ?_
    refine s_iadd dX12_goes_256 ?_
    refine s_aI dX12_goes_257 fun v5 => ?_
    refine s_aload_n dX12_goes_258 rfl ?_
    refine s_gR dX12_goes_259 fX12_26 fun v6 => ?_
    refine s_iconst (v := 3) dX12_goes_262 (by decide) ?_
    refine s_iload dX12_goes_263 rfl ?_
    refine s_iadd dX12_goes_265 ?_
    refine s_aI dX12_goes_266 fun v7 => ?_
    refine s_aload_n dX12_goes_267 rfl ?_
    refine s_gR dX12_goes_268 fX12_7 fun v8 => ?_
    refine s_bipush (v := 16) dX12_goes_271 (by decide) ?_
    refine s_iconst (v := 3) dX12_goes_273 (by decide) ?_
    refine s_iload dX12_goes_274 rfl ?_
    refine s_imul dX12_goes_276 ?_
    refine s_iadd dX12_goes_277 ?_
    refine s_aI dX12_goes_278 fun v9 => ?_
    refine s_iload_n dX12_goes_279 rfl ?_
    refine s_staticI (as := [.int v9, .int x2]) (rest := [.int v7, .int v5, .int ((3 : Int32) + x4), .ref v3]) dX12_goes_280 sX12_93 (CX12_grows _ _) (Nat.le_of_ble_eq_true rfl) ⟨Nat.le_refl _, Nat.le_refl _⟩ fun v10 => ?_
    refine s_iadd dX12_goes_283 ?_
    refine s_staticI (as := [.int v5, .int (v7 + v10)]) (rest := [.int ((3 : Int32) + x4), .ref v3]) dX12_goes_284 sX12_86 (CX12_lesser _ _) (Nat.le_of_ble_eq_true rfl) ⟨Nat.le_refl _, Nat.le_refl _⟩ fun v11 => ?_
    refine s_sI dX12_goes_287 ?_
    refine s_iinc (lv' := [(4, .int (x4 + 1)), (0, .ref x0), (2, .int x2), (3, .int x3)]) dX12_goes_288 rfl (by decide) rfl ?_
    refine s_goto (tgt := 225) dX12_goes_291 (by decide) ?_
    refine s_locals [1, 2, 3, 0] rfl ?_
    exact hR x0 x2 x3 (x4 + 1)
def WX12_goes_225 (K294 : Nat → Int32 → qP Int32) : Nat → Nat → Int32 → Int32 → Int32 → qP Int32
  | 0 => fun _ _ _ _ => qfail
  | N + 1 => fun x0 x2 x3 x4 => UX12_goes_225 (WX12_goes_225 K294 N) K294 x0 x2 x3 x4
theorem WX12_goes_225_ok {l : Launch} {g : qG} {d n : Nat} {K294 : Nat → Int32 → qP Int32} (hK294 : ∀ (x0 : Nat) (x3 : Int32), qS l g mX12_goes (d + 1) n 0 0 0 0 cvI 294 [(0, .ref x0), (3, .int x3)] [] (K294 x0 x3)) : ∀ (N : Nat) (x0 : Nat) (x2 : Int32) (x3 : Int32) (x4 : Int32), qS l g mX12_goes (d + 1) n 0 0 0 0 cvI 225 [(0, .ref x0), (2, .int x2), (3, .int x3), (4, .int x4)] [] (WX12_goes_225 K294 N x0 x2 x3 x4) := by
  intro N
  induction N with
  | zero => intro x0 x2 x3 x4; exact s_fail
  | succ N ih => intro x0 x2 x3 x4; exact UX12_goes_225_ok ih hK294 x0 x2 x3 x4
def UX12_goes_294 (x0 : Nat) (x3 : Int32) : qP Int32 :=
qb (gR 12 x0 8) fun v1 =>
qb (aI v1 (0 : Int32)) fun v2 =>
qb (sI v1 (0 : Int32) (v2 + (1 : Int32))) fun _ =>
qr x3
set_option maxRecDepth 100000 in
set_option maxHeartbeats 4000000 in
theorem UX12_goes_294_ok {l : Launch} {g : qG} {d n : Nat} (x0 : Nat) (x3 : Int32) : qS l g mX12_goes (d + 1) n 0 0 0 0 cvI 294 [(0, .ref x0), (3, .int x3)] [] (UX12_goes_294 x0 x3) := by
  unfold UX12_goes_294
  refine s_aload_n dX12_goes_294 rfl ?_
  refine s_gR dX12_goes_295 fX12_26 fun v1 => ?_
  refine s_iconst (v := 0) dX12_goes_298 (by decide) ?_
  refine s_dup2 dX12_goes_299 rfl rfl ?_
  refine s_aI dX12_goes_300 fun v2 => ?_
  refine s_iconst (v := 1) dX12_goes_301 (by decide) ?_
  refine s_iadd dX12_goes_302 ?_
  refine s_sI dX12_goes_303 ?_
  refine s_iload_n dX12_goes_304 rfl ?_
  exact s_ireturn dX12_goes_305 rfl rfl
def UX12_goes_42 (x0 : Nat) (x2 : Int32) (s0 : Nat) (s1 : Int32) (s2 : Int32) : qP Int32 :=
qb (sI s0 s1 s2) fun _ =>
qb (gR 12 x0 8) fun v1 =>
qb (aI v1 (2 : Int32)) fun v2 =>
WX12_goes_225 (UX12_goes_294) 1000000 x0 x2 v2 (0 : Int32)
set_option maxRecDepth 100000 in
set_option maxHeartbeats 4000000 in
theorem UX12_goes_42_ok {l : Launch} {g : qG} {d n : Nat} (x0 : Nat) (x2 : Int32) (s0 : Nat) (s1 : Int32) (s2 : Int32) : qS l g mX12_goes (d + 1) n 0 0 0 0 cvI 42 [(0, .ref x0), (2, .int x2)] [.int s2, .int s1, .ref s0] (UX12_goes_42 x0 x2 s0 s1 s2) := by
  unfold UX12_goes_42
  refine s_sI dX12_goes_42 ?_
  refine s_aload_n dX12_goes_43 rfl ?_
  refine s_gR dX12_goes_44 fX12_26 fun v1 => ?_
  refine s_iconst (v := 2) dX12_goes_47 (by decide) ?_
  refine s_aI dX12_goes_48 fun v2 => ?_
  refine s_istore_n (lv' := [(3, .int v2), (0, .ref x0), (2, .int x2)]) dX12_goes_49 (by decide) rfl ?_
  refine s_goto (tgt := 222) dX12_goes_50 (by decide) ?_
  refine s_iconst (v := 0) dX12_goes_222 (by decide) ?_
  refine s_istore (lv' := [(4, .int (0 : Int32)), (3, .int v2), (0, .ref x0), (2, .int x2)]) dX12_goes_223 (by decide) rfl ?_
  refine s_locals [2, 3, 1, 0] rfl ?_
  exact WX12_goes_225_ok (UX12_goes_294_ok) 1000000 x0 x2 v2 (0 : Int32)
def FX12_goes (x0 : Nat) (x1 : Int32) : qP Int32 :=
qb (gR 12 x0 8) fun v1 =>
qb (aI v1 (0 : Int32)) fun v2 =>
if x1 = (7 : Int32) then (
qb (gR 12 x0 8) fun v3 =>
qb (gR 12 x0 8) fun v4 =>
qb (aI v4 (2 : Int32)) fun v5 =>
if v5 ≤ (2 : Int32) then (
UX12_goes_42 x0 v2 v3 (2 : Int32) (0 : Int32)) else (
qb (gR 12 x0 8) fun v6 =>
qb (aI v6 (2 : Int32)) fun v7 =>
UX12_goes_42 x0 v2 v3 (2 : Int32) (v7 - (2 : Int32)))) else (
if (3 : Int32) ≤ x1 then (
qb (gR 12 x0 8) fun v8 =>
qb (aI v8 (2 : Int32)) fun v9 =>
qb (gR 12 x0 0) fun v10 =>
qb (aI v10 ((25 : Int32) + (x1 - (3 : Int32)))) fun v11 =>
qb (gR 12 x0 8) fun v12 =>
qb (aI v12 ((6 : Int32) + (x1 - (3 : Int32)))) fun v13 =>
qb (FX12_lesser ((3 : Int32) - (v9 / (3 : Int32))) (v11 - v13)) fun v14 =>
qb (gR 12 x0 8) fun v15 =>
qb (aI v15 (1 : Int32)) fun v16 =>
qb (FX12_lesser v14 v16) fun v17 =>
qb (gR 12 x0 8) fun v18 =>
qb (aI v18 ((6 : Int32) + (x1 - (3 : Int32)))) fun v19 =>
qb (sI v18 ((6 : Int32) + (x1 - (3 : Int32))) (v19 + v17)) fun _ =>
qb (gR 12 x0 8) fun v20 =>
qb (aI v20 (1 : Int32)) fun v21 =>
qb (sI v20 (1 : Int32) (v21 - v17)) fun _ =>
WX12_goes_225 (UX12_goes_294) 1000000 x0 v2 v17 (0 : Int32)) else (
qb (gR 12 x0 0) fun v22 =>
qb (aI v22 ((16 : Int32) + ((3 : Int32) * x1))) fun v23 =>
qb (FX12_picks v23 v2) fun v24 =>
qb (gR 12 x0 8) fun v25 =>
qb (aI v25 ((3 : Int32) + x1)) fun v26 =>
qb (FX12_lesser v24 v26) fun v27 =>
qb (gR 12 x0 8) fun v28 =>
qb (aI v28 (1 : Int32)) fun v29 =>
qb (FX12_lesser v27 ((30 : Int32) - v29)) fun v30 =>
qb (gR 12 x0 8) fun v31 =>
qb (aI v31 ((3 : Int32) + x1)) fun v32 =>
qb (sI v31 ((3 : Int32) + x1) (v32 - v30)) fun _ =>
qb (gR 12 x0 8) fun v33 =>
qb (aI v33 (1 : Int32)) fun v34 =>
qb (sI v33 (1 : Int32) (v34 + v30)) fun _ =>
qb (gR 12 x0 8) fun v35 =>
qb (gR 12 x0 8) fun v36 =>
qb (aI v36 (2 : Int32)) fun v37 =>
qb (FX12_hurts v23) fun v38 =>
qb (FX12_lesser (9 : Int32) (v37 + v38)) fun v39 =>
qb (sI v35 (2 : Int32) v39) fun _ =>
WX12_goes_225 (UX12_goes_294) 1000000 x0 v2 v30 (0 : Int32)))
set_option maxRecDepth 100000 in
set_option maxHeartbeats 4000000 in
theorem FX12_goes_ok {l : Launch} {g : qG} {d n : Nat} (x0 : Nat) (x1 : Int32) : qS l g mX12_goes (d + 1) n 0 0 0 0 cvI 0 [(0, .ref x0), (1, .int x1)] [] (FX12_goes x0 x1) := by
  unfold FX12_goes
  refine s_aload_n dX12_goes_0 rfl ?_
  refine s_gR dX12_goes_1 fX12_26 fun v1 => ?_
  refine s_iconst (v := 0) dX12_goes_4 (by decide) ?_
  refine s_aI dX12_goes_5 fun v2 => ?_
  refine s_istore_n (lv' := [(2, .int v2), (0, .ref x0), (1, .int x1)]) dX12_goes_6 (by decide) rfl ?_
  refine s_iconst (v := 0) dX12_goes_7 (by decide) ?_
  refine s_istore_n (lv' := [(3, .int (0 : Int32)), (2, .int v2), (0, .ref x0), (1, .int x1)]) dX12_goes_8 (by decide) rfl ?_
  refine s_iload_n dX12_goes_9 rfl ?_
  refine s_bipush (v := 7) dX12_goes_10 (by decide) ?_
  refine s_icmp_ne (tgt := 53) dX12_goes_12 (by decide) (fun c1 => ?_) (fun c1 => ?_)
  · refine s_aload_n dX12_goes_15 rfl ?_
    refine s_gR dX12_goes_16 fX12_26 fun v3 => ?_
    refine s_iconst (v := 2) dX12_goes_19 (by decide) ?_
    refine s_aload_n dX12_goes_20 rfl ?_
    refine s_gR dX12_goes_21 fX12_26 fun v4 => ?_
    refine s_iconst (v := 2) dX12_goes_24 (by decide) ?_
    refine s_aI dX12_goes_25 fun v5 => ?_
    refine s_iconst (v := 2) dX12_goes_26 (by decide) ?_
    refine s_icmp_le (tgt := 41) dX12_goes_27 (by decide) (fun c2 => ?_) (fun c2 => ?_)
    · refine s_iconst (v := 0) dX12_goes_41 (by decide) ?_
      refine s_locals [2, 1] rfl ?_
      exact UX12_goes_42_ok x0 v2 v3 (2 : Int32) (0 : Int32)
    · refine s_aload_n dX12_goes_30 rfl ?_
      refine s_gR dX12_goes_31 fX12_26 fun v6 => ?_
      refine s_iconst (v := 2) dX12_goes_34 (by decide) ?_
      refine s_aI dX12_goes_35 fun v7 => ?_
      refine s_iconst (v := 2) dX12_goes_36 (by decide) ?_
      refine s_isub dX12_goes_37 ?_
      refine s_goto (tgt := 42) dX12_goes_38 (by decide) ?_
      refine s_locals [2, 1] rfl ?_
      exact UX12_goes_42_ok x0 v2 v3 (2 : Int32) (v7 - (2 : Int32))
  · refine s_iload_n dX12_goes_53 rfl ?_
    refine s_iconst (v := 3) dX12_goes_54 (by decide) ?_
    refine s_icmp_ge (tgt := 149) dX12_goes_55 (by decide) (fun c3 => ?_) (fun c3 => ?_)
    · refine s_iload_n dX12_goes_149 rfl ?_
      refine s_iconst (v := 3) dX12_goes_150 (by decide) ?_
      refine s_isub dX12_goes_151 ?_
      refine s_istore (lv' := [(4, .int (x1 - (3 : Int32))), (3, .int (0 : Int32)), (2, .int v2), (0, .ref x0), (1, .int x1)]) dX12_goes_152 (by decide) rfl ?_
      refine s_iconst (v := 3) dX12_goes_154 (by decide) ?_
      refine s_aload_n dX12_goes_155 rfl ?_
      refine s_gR dX12_goes_156 fX12_26 fun v8 => ?_
      refine s_iconst (v := 2) dX12_goes_159 (by decide) ?_
      refine s_aI dX12_goes_160 fun v9 => ?_
      refine s_iconst (v := 3) dX12_goes_161 (by decide) ?_
      refine s_idiv dX12_goes_162 (by decide) ?_
      refine s_isub dX12_goes_163 ?_
      refine s_aload_n dX12_goes_164 rfl ?_
      refine s_gR dX12_goes_165 fX12_7 fun v10 => ?_
      refine s_bipush (v := 25) dX12_goes_168 (by decide) ?_
      refine s_iload dX12_goes_170 rfl ?_
      refine s_iadd dX12_goes_172 ?_
      refine s_aI dX12_goes_173 fun v11 => ?_
      refine s_aload_n dX12_goes_174 rfl ?_
      refine s_gR dX12_goes_175 fX12_26 fun v12 => ?_
      refine s_bipush (v := 6) dX12_goes_178 (by decide) ?_
      refine s_iload dX12_goes_180 rfl ?_
      refine s_iadd dX12_goes_182 ?_
      refine s_aI dX12_goes_183 fun v13 => ?_
      refine s_isub dX12_goes_184 ?_
      refine s_staticI (as := [.int ((3 : Int32) - (v9 / (3 : Int32))), .int (v11 - v13)]) (rest := []) dX12_goes_185 sX12_86 (CX12_lesser _ _) (Nat.le_of_ble_eq_true rfl) ⟨Nat.le_refl _, Nat.le_refl _⟩ fun v14 => ?_
      refine s_aload_n dX12_goes_188 rfl ?_
      refine s_gR dX12_goes_189 fX12_26 fun v15 => ?_
      refine s_iconst (v := 1) dX12_goes_192 (by decide) ?_
      refine s_aI dX12_goes_193 fun v16 => ?_
      refine s_staticI (as := [.int v14, .int v16]) (rest := []) dX12_goes_194 sX12_86 (CX12_lesser _ _) (Nat.le_of_ble_eq_true rfl) ⟨Nat.le_refl _, Nat.le_refl _⟩ fun v17 => ?_
      refine s_istore_n (lv' := [(3, .int v17), (4, .int (x1 - (3 : Int32))), (2, .int v2), (0, .ref x0), (1, .int x1)]) dX12_goes_197 (by decide) rfl ?_
      refine s_aload_n dX12_goes_198 rfl ?_
      refine s_gR dX12_goes_199 fX12_26 fun v18 => ?_
      refine s_bipush (v := 6) dX12_goes_202 (by decide) ?_
      refine s_iload dX12_goes_204 rfl ?_
      refine s_iadd dX12_goes_206 ?_
      refine s_dup2 dX12_goes_207 rfl rfl ?_
      refine s_aI dX12_goes_208 fun v19 => ?_
      refine s_iload_n dX12_goes_209 rfl ?_
      refine s_iadd dX12_goes_210 ?_
      refine s_sI dX12_goes_211 ?_
      refine s_aload_n dX12_goes_212 rfl ?_
      refine s_gR dX12_goes_213 fX12_26 fun v20 => ?_
      refine s_iconst (v := 1) dX12_goes_216 (by decide) ?_
      refine s_dup2 dX12_goes_217 rfl rfl ?_
      refine s_aI dX12_goes_218 fun v21 => ?_
      refine s_iload_n dX12_goes_219 rfl ?_
      refine s_isub dX12_goes_220 ?_
      refine s_sI dX12_goes_221 ?_
      refine s_iconst (v := 0) dX12_goes_222 (by decide) ?_
      refine s_istore (lv' := [(4, .int (0 : Int32)), (3, .int v17), (2, .int v2), (0, .ref x0), (1, .int x1)]) dX12_goes_223 (by decide) rfl ?_
      refine s_locals [3, 2, 1, 0] rfl ?_
      exact WX12_goes_225_ok (UX12_goes_294_ok) 1000000 x0 v2 v17 (0 : Int32)
    · refine s_aload_n dX12_goes_58 rfl ?_
      refine s_gR dX12_goes_59 fX12_7 fun v22 => ?_
      refine s_bipush (v := 16) dX12_goes_62 (by decide) ?_
      refine s_iconst (v := 3) dX12_goes_64 (by decide) ?_
      refine s_iload_n dX12_goes_65 rfl ?_
      refine s_imul dX12_goes_66 ?_
      refine s_iadd dX12_goes_67 ?_
      refine s_aI dX12_goes_68 fun v23 => ?_
      refine s_istore (lv' := [(4, .int v23), (3, .int (0 : Int32)), (2, .int v2), (0, .ref x0), (1, .int x1)]) dX12_goes_69 (by decide) rfl ?_
      refine s_iload dX12_goes_71 rfl ?_
      refine s_iload_n dX12_goes_73 rfl ?_
      refine s_staticI (as := [.int v23, .int v2]) (rest := []) dX12_goes_74 sX12_83 (CX12_picks _ _) (Nat.le_of_ble_eq_true rfl) ⟨Nat.le_refl _, Nat.le_refl _⟩ fun v24 => ?_
      refine s_aload_n dX12_goes_77 rfl ?_
      refine s_gR dX12_goes_78 fX12_26 fun v25 => ?_
      refine s_iconst (v := 3) dX12_goes_81 (by decide) ?_
      refine s_iload_n dX12_goes_82 rfl ?_
      refine s_iadd dX12_goes_83 ?_
      refine s_aI dX12_goes_84 fun v26 => ?_
      refine s_staticI (as := [.int v24, .int v26]) (rest := []) dX12_goes_85 sX12_86 (CX12_lesser _ _) (Nat.le_of_ble_eq_true rfl) ⟨Nat.le_refl _, Nat.le_refl _⟩ fun v27 => ?_
      refine s_bipush (v := 30) dX12_goes_88 (by decide) ?_
      refine s_aload_n dX12_goes_90 rfl ?_
      refine s_gR dX12_goes_91 fX12_26 fun v28 => ?_
      refine s_iconst (v := 1) dX12_goes_94 (by decide) ?_
      refine s_aI dX12_goes_95 fun v29 => ?_
      refine s_isub dX12_goes_96 ?_
      refine s_staticI (as := [.int v27, .int ((30 : Int32) - v29)]) (rest := []) dX12_goes_97 sX12_86 (CX12_lesser _ _) (Nat.le_of_ble_eq_true rfl) ⟨Nat.le_refl _, Nat.le_refl _⟩ fun v30 => ?_
      refine s_istore_n (lv' := [(3, .int v30), (4, .int v23), (2, .int v2), (0, .ref x0), (1, .int x1)]) dX12_goes_100 (by decide) rfl ?_
      refine s_aload_n dX12_goes_101 rfl ?_
      refine s_gR dX12_goes_102 fX12_26 fun v31 => ?_
      refine s_iconst (v := 3) dX12_goes_105 (by decide) ?_
      refine s_iload_n dX12_goes_106 rfl ?_
      refine s_iadd dX12_goes_107 ?_
      refine s_dup2 dX12_goes_108 rfl rfl ?_
      refine s_aI dX12_goes_109 fun v32 => ?_
      refine s_iload_n dX12_goes_110 rfl ?_
      refine s_isub dX12_goes_111 ?_
      refine s_sI dX12_goes_112 ?_
      refine s_aload_n dX12_goes_113 rfl ?_
      refine s_gR dX12_goes_114 fX12_26 fun v33 => ?_
      refine s_iconst (v := 1) dX12_goes_117 (by decide) ?_
      refine s_dup2 dX12_goes_118 rfl rfl ?_
      refine s_aI dX12_goes_119 fun v34 => ?_
      refine s_iload_n dX12_goes_120 rfl ?_
      refine s_iadd dX12_goes_121 ?_
      refine s_sI dX12_goes_122 ?_
      refine s_aload_n dX12_goes_123 rfl ?_
      refine s_gR dX12_goes_124 fX12_26 fun v35 => ?_
      refine s_iconst (v := 2) dX12_goes_127 (by decide) ?_
      refine s_bipush (v := 9) dX12_goes_128 (by decide) ?_
      refine s_aload_n dX12_goes_130 rfl ?_
      refine s_gR dX12_goes_131 fX12_26 fun v36 => ?_
      refine s_iconst (v := 2) dX12_goes_134 (by decide) ?_
      refine s_aI dX12_goes_135 fun v37 => ?_
      refine s_iload dX12_goes_136 rfl ?_
      refine s_staticI (as := [.int v23]) (rest := [.int v37, .int (9 : Int32), .int (2 : Int32), .ref v35]) dX12_goes_138 sX12_89 (CX12_hurts _) (Nat.le_of_ble_eq_true rfl) ⟨Nat.le_refl _, Nat.le_refl _⟩ fun v38 => ?_
      refine s_iadd dX12_goes_141 ?_
      refine s_staticI (as := [.int (9 : Int32), .int (v37 + v38)]) (rest := [.int (2 : Int32), .ref v35]) dX12_goes_142 sX12_86 (CX12_lesser _ _) (Nat.le_of_ble_eq_true rfl) ⟨Nat.le_refl _, Nat.le_refl _⟩ fun v39 => ?_
      refine s_sI dX12_goes_145 ?_
      refine s_goto (tgt := 222) dX12_goes_146 (by decide) ?_
      refine s_iconst (v := 0) dX12_goes_222 (by decide) ?_
      refine s_istore (lv' := [(4, .int (0 : Int32)), (3, .int v30), (2, .int v2), (0, .ref x0), (1, .int x1)]) dX12_goes_223 (by decide) rfl ?_
      refine s_locals [3, 2, 1, 0] rfl ?_
      exact WX12_goes_225_ok (UX12_goes_294_ok) 1000000 x0 v2 v30 (0 : Int32)
theorem CX12_goes {l : Launch} {g : qG} {d : Nat} (x0 : Nat) (x1 : Int32) : qCt l g mX12_goes (d + 1) 0 0 cvI [.ref x0, .int x1] (FX12_goes x0 x1) := s_of pn_X12 (Nat.le_of_ble_eq_true rfl) fun n => FX12_goes_ok x0 x1
def UX12_night_73 (R : Nat → Int32 → Int32 → qP Int32) (K114 : Nat → Int32 → qP Int32) (x0 : Nat) (x1 : Int32) (x2 : Int32) : qP Int32 :=
if (10 : Int32) ≤ x2 then (
K114 x0 x1) else (
qb (gR 12 x0 0) fun v1 =>
qb (gR 12 x0 0) fun v2 =>
qb (aI v2 (2 : Int32)) fun v3 =>
qb (gR 12 x0 0) fun v4 =>
qb (aI v4 ((6 : Int32) + x2)) fun v5 =>
qb (sI v1 (((133 : Int32) + ((10 : Int32) * v3)) + x2) v5) fun _ =>
R x0 x1 (x2 + 1))
set_option maxRecDepth 100000 in
set_option maxHeartbeats 4000000 in
theorem UX12_night_73_ok {l : Launch} {g : qG} {d n : Nat} {R : Nat → Int32 → Int32 → qP Int32} (hR : ∀ (x0 : Nat) (x1 : Int32) (x2 : Int32), qS l g mX12_night (d + 3) n 0 0 0 0 cvI 73 [(0, .ref x0), (1, .int x1), (2, .int x2)] [] (R x0 x1 x2)) {K114 : Nat → Int32 → qP Int32} (hK114 : ∀ (x0 : Nat) (x1 : Int32), qS l g mX12_night (d + 3) n 0 0 0 0 cvI 114 [(0, .ref x0), (1, .int x1)] [] (K114 x0 x1)) (x0 : Nat) (x1 : Int32) (x2 : Int32) : qS l g mX12_night (d + 3) n 0 0 0 0 cvI 73 [(0, .ref x0), (1, .int x1), (2, .int x2)] [] (UX12_night_73 R K114 x0 x1 x2) := by
  unfold UX12_night_73
  refine s_iload_n dX12_night_73 rfl ?_
  refine s_bipush (v := 10) dX12_night_74 (by decide) ?_
  refine s_icmp_ge (tgt := 114) dX12_night_76 (by decide) (fun c1 => ?_) (fun c1 => ?_)
  · refine s_locals [0, 1] rfl ?_
    exact hK114 x0 x1
  · refine s_aload_n dX12_night_79 rfl ?_
    refine s_gR dX12_night_80 fX12_7 fun v1 => ?_
    refine s_sipush (v := 133) dX12_night_83 (by decide) ?_
    refine s_bipush (v := 10) dX12_night_86 (by decide) ?_
    refine s_aload_n dX12_night_88 rfl ?_
    refine s_gR dX12_night_89 fX12_7 fun v2 => ?_
    refine s_iconst (v := 2) dX12_night_92 (by decide) ?_
    refine s_aI dX12_night_93 fun v3 => ?_
    refine s_imul dX12_night_94 ?_
    refine s_iadd dX12_night_95 ?_
    refine s_iload_n dX12_night_96 rfl ?_
    refine s_iadd dX12_night_97 ?_
    refine s_aload_n dX12_night_98 rfl ?_
    refine s_gR dX12_night_99 fX12_7 fun v4 => ?_
    refine s_bipush (v := 6) dX12_night_102 (by decide) ?_
    refine s_iload_n dX12_night_104 rfl ?_
    refine s_iadd dX12_night_105 ?_
    refine s_aI dX12_night_106 fun v5 => ?_
    refine s_sI dX12_night_107 ?_
    refine s_iinc (lv' := [(2, .int (x2 + 1)), (0, .ref x0), (1, .int x1)]) dX12_night_108 rfl (by decide) rfl ?_
    refine s_goto (tgt := 73) dX12_night_111 (by decide) ?_
    refine s_locals [1, 2, 0] rfl ?_
    exact hR x0 x1 (x2 + 1)
def WX12_night_73 (K114 : Nat → Int32 → qP Int32) : Nat → Nat → Int32 → Int32 → qP Int32
  | 0 => fun _ _ _ => qfail
  | N + 1 => fun x0 x1 x2 => UX12_night_73 (WX12_night_73 K114 N) K114 x0 x1 x2
theorem WX12_night_73_ok {l : Launch} {g : qG} {d n : Nat} {K114 : Nat → Int32 → qP Int32} (hK114 : ∀ (x0 : Nat) (x1 : Int32), qS l g mX12_night (d + 3) n 0 0 0 0 cvI 114 [(0, .ref x0), (1, .int x1)] [] (K114 x0 x1)) : ∀ (N : Nat) (x0 : Nat) (x1 : Int32) (x2 : Int32), qS l g mX12_night (d + 3) n 0 0 0 0 cvI 73 [(0, .ref x0), (1, .int x1), (2, .int x2)] [] (WX12_night_73 K114 N x0 x1 x2) := by
  intro N
  induction N with
  | zero => intro x0 x1 x2; exact s_fail
  | succ N ih => intro x0 x1 x2; exact UX12_night_73_ok ih hK114 x0 x1 x2
def UX12_night_26 (R : Nat → Int32 → Int32 → qP Int32) (K61 : Nat → Int32 → qP Int32) (x0 : Nat) (x1 : Int32) (x2 : Int32) : qP Int32 :=
if (110 : Int32) ≤ x2 then (
K61 x0 x1) else (
qb (gR 12 x0 0) fun v1 =>
qb (gR 12 x0 0) fun v2 =>
qb (aI v2 (((133 : Int32) + x2) + (10 : Int32))) fun v3 =>
qb (sI v1 ((133 : Int32) + x2) v3) fun _ =>
R x0 x1 (x2 + 1))
set_option maxRecDepth 100000 in
set_option maxHeartbeats 4000000 in
theorem UX12_night_26_ok {l : Launch} {g : qG} {d n : Nat} {R : Nat → Int32 → Int32 → qP Int32} (hR : ∀ (x0 : Nat) (x1 : Int32) (x2 : Int32), qS l g mX12_night (d + 3) n 0 0 0 0 cvI 26 [(0, .ref x0), (1, .int x1), (2, .int x2)] [] (R x0 x1 x2)) {K61 : Nat → Int32 → qP Int32} (hK61 : ∀ (x0 : Nat) (x1 : Int32), qS l g mX12_night (d + 3) n 0 0 0 0 cvI 61 [(0, .ref x0), (1, .int x1)] [] (K61 x0 x1)) (x0 : Nat) (x1 : Int32) (x2 : Int32) : qS l g mX12_night (d + 3) n 0 0 0 0 cvI 26 [(0, .ref x0), (1, .int x1), (2, .int x2)] [] (UX12_night_26 R K61 x0 x1 x2) := by
  unfold UX12_night_26
  refine s_iload_n dX12_night_26 rfl ?_
  refine s_bipush (v := 110) dX12_night_27 (by decide) ?_
  refine s_icmp_ge (tgt := 61) dX12_night_29 (by decide) (fun c1 => ?_) (fun c1 => ?_)
  · refine s_locals [0, 1] rfl ?_
    exact hK61 x0 x1
  · refine s_aload_n dX12_night_32 rfl ?_
    refine s_gR dX12_night_33 fX12_7 fun v1 => ?_
    refine s_sipush (v := 133) dX12_night_36 (by decide) ?_
    refine s_iload_n dX12_night_39 rfl ?_
    refine s_iadd dX12_night_40 ?_
    refine s_aload_n dX12_night_41 rfl ?_
    refine s_gR dX12_night_42 fX12_7 fun v2 => ?_
    refine s_sipush (v := 133) dX12_night_45 (by decide) ?_
    refine s_iload_n dX12_night_48 rfl ?_
    refine s_iadd dX12_night_49 ?_
    refine s_bipush (v := 10) dX12_night_50 (by decide) ?_
    refine s_iadd dX12_night_52 ?_
    refine s_aI dX12_night_53 fun v3 => ?_
    refine s_sI dX12_night_54 ?_
    refine s_iinc (lv' := [(2, .int (x2 + 1)), (0, .ref x0), (1, .int x1)]) dX12_night_55 rfl (by decide) rfl ?_
    refine s_goto (tgt := 26) dX12_night_58 (by decide) ?_
    refine s_locals [1, 2, 0] rfl ?_
    exact hR x0 x1 (x2 + 1)
def WX12_night_26 (K61 : Nat → Int32 → qP Int32) : Nat → Nat → Int32 → Int32 → qP Int32
  | 0 => fun _ _ _ => qfail
  | N + 1 => fun x0 x1 x2 => UX12_night_26 (WX12_night_26 K61 N) K61 x0 x1 x2
theorem WX12_night_26_ok {l : Launch} {g : qG} {d n : Nat} {K61 : Nat → Int32 → qP Int32} (hK61 : ∀ (x0 : Nat) (x1 : Int32), qS l g mX12_night (d + 3) n 0 0 0 0 cvI 61 [(0, .ref x0), (1, .int x1)] [] (K61 x0 x1)) : ∀ (N : Nat) (x0 : Nat) (x1 : Int32) (x2 : Int32), qS l g mX12_night (d + 3) n 0 0 0 0 cvI 26 [(0, .ref x0), (1, .int x1), (2, .int x2)] [] (WX12_night_26 K61 N x0 x1 x2) := by
  intro N
  induction N with
  | zero => intro x0 x1 x2; exact s_fail
  | succ N ih => intro x0 x1 x2; exact UX12_night_26_ok ih hK61 x0 x1 x2
def UX12_night_136 (R : Nat → Int32 → Int32 → qP Int32) (x0 : Nat) (x2 : Int32) (x3 : Int32) : qP Int32 :=
if (10 : Int32) ≤ x3 then (
qr x2) else (
qb (gR 12 x0 0) fun v1 =>
qb (gR 12 x0 8) fun v2 =>
qb (aI v2 x3) fun v3 =>
qb (sI v1 ((6 : Int32) + x3) v3) fun _ =>
R x0 x2 (x3 + 1))
set_option maxRecDepth 100000 in
set_option maxHeartbeats 4000000 in
theorem UX12_night_136_ok {l : Launch} {g : qG} {d n : Nat} {R : Nat → Int32 → Int32 → qP Int32} (hR : ∀ (x0 : Nat) (x2 : Int32) (x3 : Int32), qS l g mX12_night (d + 3) n 0 0 0 0 cvI 136 [(0, .ref x0), (2, .int x2), (3, .int x3)] [] (R x0 x2 x3)) (x0 : Nat) (x2 : Int32) (x3 : Int32) : qS l g mX12_night (d + 3) n 0 0 0 0 cvI 136 [(0, .ref x0), (2, .int x2), (3, .int x3)] [] (UX12_night_136 R x0 x2 x3) := by
  unfold UX12_night_136
  refine s_iload_n dX12_night_136 rfl ?_
  refine s_bipush (v := 10) dX12_night_137 (by decide) ?_
  refine s_icmp_ge (tgt := 163) dX12_night_139 (by decide) (fun c1 => ?_) (fun c1 => ?_)
  · refine s_iload_n dX12_night_163 rfl ?_
    exact s_ireturn dX12_night_164 rfl rfl
  · refine s_aload_n dX12_night_142 rfl ?_
    refine s_gR dX12_night_143 fX12_7 fun v1 => ?_
    refine s_bipush (v := 6) dX12_night_146 (by decide) ?_
    refine s_iload_n dX12_night_148 rfl ?_
    refine s_iadd dX12_night_149 ?_
    refine s_aload_n dX12_night_150 rfl ?_
    refine s_gR dX12_night_151 fX12_26 fun v2 => ?_
    refine s_iload_n dX12_night_154 rfl ?_
    refine s_aI dX12_night_155 fun v3 => ?_
    refine s_sI dX12_night_156 ?_
    refine s_iinc (lv' := [(3, .int (x3 + 1)), (0, .ref x0), (2, .int x2)]) dX12_night_157 rfl (by decide) rfl ?_
    refine s_goto (tgt := 136) dX12_night_160 (by decide) ?_
    refine s_locals [1, 2, 0] rfl ?_
    exact hR x0 x2 (x3 + 1)
def WX12_night_136 : Nat → Nat → Int32 → Int32 → qP Int32
  | 0 => fun _ _ _ => qfail
  | N + 1 => fun x0 x2 x3 => UX12_night_136 (WX12_night_136  N)  x0 x2 x3
theorem WX12_night_136_ok {l : Launch} {g : qG} {d n : Nat} : ∀ (N : Nat) (x0 : Nat) (x2 : Int32) (x3 : Int32), qS l g mX12_night (d + 3) n 0 0 0 0 cvI 136 [(0, .ref x0), (2, .int x2), (3, .int x3)] [] (WX12_night_136  N x0 x2 x3) := by
  intro N
  induction N with
  | zero => intro x0 x2 x3; exact s_fail
  | succ N ih => intro x0 x2 x3; exact UX12_night_136_ok ih  x0 x2 x3
def UX12_night_114 (x0 : Nat) (x1 : Int32) : qP Int32 :=
qb (gR 12 x0 0) fun v1 =>
qb (aI v1 (2 : Int32)) fun v2 =>
qb (sI v1 (2 : Int32) (v2 + (1 : Int32))) fun _ =>
qb (qcl 12 x0) fun _ => qb (FX12_asNow x0) fun v3 =>
qb (qcl 12 x0) fun _ => qb (FX12_goes x0 x1) fun v4 =>
WX12_night_136 1000000 x0 v4 (0 : Int32)
set_option maxRecDepth 100000 in
set_option maxHeartbeats 4000000 in
theorem UX12_night_114_ok {l : Launch} {g : qG} {d n : Nat} (x0 : Nat) (x1 : Int32) : qS l g mX12_night (d + 3) n 0 0 0 0 cvI 114 [(0, .ref x0), (1, .int x1)] [] (UX12_night_114 x0 x1) := by
  unfold UX12_night_114
  refine s_aload_n dX12_night_114 rfl ?_
  refine s_gR dX12_night_115 fX12_7 fun v1 => ?_
  refine s_iconst (v := 2) dX12_night_118 (by decide) ?_
  refine s_dup2 dX12_night_119 rfl rfl ?_
  refine s_aI dX12_night_120 fun v2 => ?_
  refine s_iconst (v := 1) dX12_night_121 (by decide) ?_
  refine s_iadd dX12_night_122 ?_
  refine s_sI dX12_night_123 ?_
  refine s_aload_n dX12_night_124 rfl ?_
  refine s_virtV (as := []) (rest := []) dX12_night_125 vX12_99 (CX12_asNow _) (Nat.le_of_ble_eq_true rfl) ⟨Nat.le_refl _, Nat.le_refl _⟩ fun v3 => ?_
  refine s_aload_n dX12_night_128 rfl ?_
  refine s_iload_n dX12_night_129 rfl ?_
  refine s_virtI (as := [.int x1]) (rest := []) dX12_night_130 vX12_102 (CX12_goes _ _) (Nat.le_of_ble_eq_true rfl) ⟨Nat.le_refl _, Nat.le_refl _⟩ fun v4 => ?_
  refine s_istore_n (lv' := [(2, .int v4), (0, .ref x0), (1, .int x1)]) dX12_night_133 (by decide) rfl ?_
  refine s_iconst (v := 0) dX12_night_134 (by decide) ?_
  refine s_istore_n (lv' := [(3, .int (0 : Int32)), (2, .int v4), (0, .ref x0), (1, .int x1)]) dX12_night_135 (by decide) rfl ?_
  refine s_locals [2, 1, 0] rfl ?_
  exact WX12_night_136_ok  1000000 x0 v4 (0 : Int32)
def UX12_night_61 (x0 : Nat) (x1 : Int32) : qP Int32 :=
qb (gR 12 x0 0) fun v1 =>
qb (aI v1 (2 : Int32)) fun v2 =>
qb (sI v1 (2 : Int32) (v2 - (1 : Int32))) fun _ =>
WX12_night_73 (UX12_night_114) 1000000 x0 x1 (0 : Int32)
set_option maxRecDepth 100000 in
set_option maxHeartbeats 4000000 in
theorem UX12_night_61_ok {l : Launch} {g : qG} {d n : Nat} (x0 : Nat) (x1 : Int32) : qS l g mX12_night (d + 3) n 0 0 0 0 cvI 61 [(0, .ref x0), (1, .int x1)] [] (UX12_night_61 x0 x1) := by
  unfold UX12_night_61
  refine s_aload_n dX12_night_61 rfl ?_
  refine s_gR dX12_night_62 fX12_7 fun v1 => ?_
  refine s_iconst (v := 2) dX12_night_65 (by decide) ?_
  refine s_dup2 dX12_night_66 rfl rfl ?_
  refine s_aI dX12_night_67 fun v2 => ?_
  refine s_iconst (v := 1) dX12_night_68 (by decide) ?_
  refine s_isub dX12_night_69 ?_
  refine s_sI dX12_night_70 ?_
  refine s_iconst (v := 0) dX12_night_71 (by decide) ?_
  refine s_istore_n (lv' := [(2, .int (0 : Int32)), (0, .ref x0), (1, .int x1)]) dX12_night_72 (by decide) rfl ?_
  refine s_locals [1, 2, 0] rfl ?_
  exact WX12_night_73_ok (UX12_night_114_ok) 1000000 x0 x1 (0 : Int32)
def FX12_night (x0 : Nat) (x1 : Int32) : qP Int32 :=
qb (qcl 12 x0) fun _ => qb (FX12_isNight x0 x1) fun v1 =>
if v1 = 0 then (
qb (qcl 12 x0) fun _ => qb (FX12_bad x0) fun v2 =>
qr v2) else (
qb (gR 12 x0 0) fun v3 =>
qb (aI v3 (2 : Int32)) fun v4 =>
if v4 = (12 : Int32) then (
WX12_night_26 (UX12_night_61) 1000000 x0 x1 (0 : Int32)) else (
WX12_night_73 (UX12_night_114) 1000000 x0 x1 (0 : Int32)))
set_option maxRecDepth 100000 in
set_option maxHeartbeats 4000000 in
theorem FX12_night_ok {l : Launch} {g : qG} {d n : Nat} (x0 : Nat) (x1 : Int32) : qS l g mX12_night (d + 3) n 0 0 0 0 cvI 0 [(0, .ref x0), (1, .int x1)] [] (FX12_night x0 x1) := by
  unfold FX12_night
  refine s_aload_n dX12_night_0 rfl ?_
  refine s_iload_n dX12_night_1 rfl ?_
  refine s_virtI (as := [.int x1]) (rest := []) dX12_night_2 vX12_96 (CX12_isNight _ _) (Nat.le_of_ble_eq_true rfl) ⟨Nat.le_refl _, Nat.le_refl _⟩ fun v1 => ?_
  refine s_if_ne (tgt := 13) dX12_night_5 (by decide) (fun c1 => ?_) (fun c1 => ?_)
  · refine s_aload_n dX12_night_8 rfl ?_
    refine s_virtI (as := []) (rest := []) dX12_night_9 vX12_74 (CX12_bad _) (Nat.le_of_ble_eq_true rfl) ⟨Nat.le_refl _, Nat.le_refl _⟩ fun v2 => ?_
    exact s_ireturn dX12_night_12 rfl rfl
  · refine s_aload_n dX12_night_13 rfl ?_
    refine s_gR dX12_night_14 fX12_7 fun v3 => ?_
    refine s_iconst (v := 2) dX12_night_17 (by decide) ?_
    refine s_aI dX12_night_18 fun v4 => ?_
    refine s_bipush (v := 12) dX12_night_19 (by decide) ?_
    refine s_icmp_ne (tgt := 71) dX12_night_21 (by decide) (fun c2 => ?_) (fun c2 => ?_)
    · refine s_iconst (v := 0) dX12_night_24 (by decide) ?_
      refine s_istore_n (lv' := [(2, .int (0 : Int32)), (0, .ref x0), (1, .int x1)]) dX12_night_25 (by decide) rfl ?_
      refine s_locals [1, 2, 0] rfl ?_
      exact WX12_night_26_ok (UX12_night_61_ok) 1000000 x0 x1 (0 : Int32)
    · refine s_iconst (v := 0) dX12_night_71 (by decide) ?_
      refine s_istore_n (lv' := [(2, .int (0 : Int32)), (0, .ref x0), (1, .int x1)]) dX12_night_72 (by decide) rfl ?_
      refine s_locals [1, 2, 0] rfl ?_
      exact WX12_night_73_ok (UX12_night_114_ok) 1000000 x0 x1 (0 : Int32)
theorem CX12_night {l : Launch} {g : qG} {d : Nat} (x0 : Nat) (x1 : Int32) : qCt l g mX12_night (d + 3) 0 0 cvI [.ref x0, .int x1] (FX12_night x0 x1) := s_of pn_X12 (Nat.le_of_ble_eq_true rfl) fun n => FX12_night_ok x0 x1
def UX12_undo_26 (R : Nat → Int32 → qP Int32) (x0 : Nat) (x1 : Int32) : qP Int32 :=
if (10 : Int32) ≤ x1 then (
qr (1 : Int32)) else (
qb (gR 12 x0 0) fun v1 =>
qb (gR 12 x0 0) fun v2 =>
qb (gR 12 x0 0) fun v3 =>
qb (aI v3 (2 : Int32)) fun v4 =>
qb (aI v2 (((133 : Int32) + ((10 : Int32) * v4)) + x1)) fun v5 =>
qb (sI v1 ((6 : Int32) + x1) v5) fun _ =>
R x0 (x1 + 1))
set_option maxRecDepth 100000 in
set_option maxHeartbeats 4000000 in
theorem UX12_undo_26_ok {l : Launch} {g : qG} {d n : Nat} {R : Nat → Int32 → qP Int32} (hR : ∀ (x0 : Nat) (x1 : Int32), qS l g mX12_undo (d + 2) n 0 0 0 0 cvI 26 [(0, .ref x0), (1, .int x1)] [] (R x0 x1)) (x0 : Nat) (x1 : Int32) : qS l g mX12_undo (d + 2) n 0 0 0 0 cvI 26 [(0, .ref x0), (1, .int x1)] [] (UX12_undo_26 R x0 x1) := by
  unfold UX12_undo_26
  refine s_iload_n dX12_undo_26 rfl ?_
  refine s_bipush (v := 10) dX12_undo_27 (by decide) ?_
  refine s_icmp_ge (tgt := 67) dX12_undo_29 (by decide) (fun c1 => ?_) (fun c1 => ?_)
  · refine s_iconst (v := 1) dX12_undo_67 (by decide) ?_
    exact s_ireturn dX12_undo_68 rfl rfl
  · refine s_aload_n dX12_undo_32 rfl ?_
    refine s_gR dX12_undo_33 fX12_7 fun v1 => ?_
    refine s_bipush (v := 6) dX12_undo_36 (by decide) ?_
    refine s_iload_n dX12_undo_38 rfl ?_
    refine s_iadd dX12_undo_39 ?_
    refine s_aload_n dX12_undo_40 rfl ?_
    refine s_gR dX12_undo_41 fX12_7 fun v2 => ?_
    refine s_sipush (v := 133) dX12_undo_44 (by decide) ?_
    refine s_bipush (v := 10) dX12_undo_47 (by decide) ?_
    refine s_aload_n dX12_undo_49 rfl ?_
    refine s_gR dX12_undo_50 fX12_7 fun v3 => ?_
    refine s_iconst (v := 2) dX12_undo_53 (by decide) ?_
    refine s_aI dX12_undo_54 fun v4 => ?_
    refine s_imul dX12_undo_55 ?_
    refine s_iadd dX12_undo_56 ?_
    refine s_iload_n dX12_undo_57 rfl ?_
    refine s_iadd dX12_undo_58 ?_
    refine s_aI dX12_undo_59 fun v5 => ?_
    refine s_sI dX12_undo_60 ?_
    refine s_iinc (lv' := [(1, .int (x1 + 1)), (0, .ref x0)]) dX12_undo_61 rfl (by decide) rfl ?_
    refine s_goto (tgt := 26) dX12_undo_64 (by decide) ?_
    refine s_locals [1, 0] rfl ?_
    exact hR x0 (x1 + 1)
def WX12_undo_26 : Nat → Nat → Int32 → qP Int32
  | 0 => fun _ _ => qfail
  | N + 1 => fun x0 x1 => UX12_undo_26 (WX12_undo_26  N)  x0 x1
theorem WX12_undo_26_ok {l : Launch} {g : qG} {d n : Nat} : ∀ (N : Nat) (x0 : Nat) (x1 : Int32), qS l g mX12_undo (d + 2) n 0 0 0 0 cvI 26 [(0, .ref x0), (1, .int x1)] [] (WX12_undo_26  N x0 x1) := by
  intro N
  induction N with
  | zero => intro x0 x1; exact s_fail
  | succ N ih => intro x0 x1; exact UX12_undo_26_ok ih  x0 x1
def FX12_undo (x0 : Nat) : qP Int32 :=
qb (gR 12 x0 0) fun v1 =>
qb (aI v1 (2 : Int32)) fun v2 =>
if v2 = 0 then (
qb (qcl 12 x0) fun _ => qb (FX12_no x0) fun v3 =>
qr v3) else (
qb (gR 12 x0 0) fun v4 =>
qb (aI v4 (2 : Int32)) fun v5 =>
qb (sI v4 (2 : Int32) (v5 - (1 : Int32))) fun _ =>
WX12_undo_26 1000000 x0 (0 : Int32))
set_option maxRecDepth 100000 in
set_option maxHeartbeats 4000000 in
theorem FX12_undo_ok {l : Launch} {g : qG} {d n : Nat} (x0 : Nat) : qS l g mX12_undo (d + 2) n 0 0 0 0 cvI 0 [(0, .ref x0)] [] (FX12_undo x0) := by
  unfold FX12_undo
  refine s_aload_n dX12_undo_0 rfl ?_
  refine s_gR dX12_undo_1 fX12_7 fun v1 => ?_
  refine s_iconst (v := 2) dX12_undo_4 (by decide) ?_
  refine s_aI dX12_undo_5 fun v2 => ?_
  refine s_if_ne (tgt := 14) dX12_undo_6 (by decide) (fun c1 => ?_) (fun c1 => ?_)
  · refine s_aload_n dX12_undo_9 rfl ?_
    refine s_virtI (as := []) (rest := []) dX12_undo_10 vX12_105 (CX12_no _) (Nat.le_of_ble_eq_true rfl) ⟨Nat.le_refl _, Nat.le_refl _⟩ fun v3 => ?_
    exact s_ireturn dX12_undo_13 rfl rfl
  · refine s_aload_n dX12_undo_14 rfl ?_
    refine s_gR dX12_undo_15 fX12_7 fun v4 => ?_
    refine s_iconst (v := 2) dX12_undo_18 (by decide) ?_
    refine s_dup2 dX12_undo_19 rfl rfl ?_
    refine s_aI dX12_undo_20 fun v5 => ?_
    refine s_iconst (v := 1) dX12_undo_21 (by decide) ?_
    refine s_isub dX12_undo_22 ?_
    refine s_sI dX12_undo_23 ?_
    refine s_iconst (v := 0) dX12_undo_24 (by decide) ?_
    refine s_istore_n (lv' := [(1, .int (0 : Int32)), (0, .ref x0)]) dX12_undo_25 (by decide) rfl ?_
    refine s_locals [1, 0] rfl ?_
    exact WX12_undo_26_ok  1000000 x0 (0 : Int32)
theorem CX12_undo {l : Launch} {g : qG} {d : Nat} (x0 : Nat) : qCt l g mX12_undo (d + 2) 0 0 cvI [.ref x0] (FX12_undo x0) := s_of pn_X12 (Nat.le_of_ble_eq_true rfl) fun n => FX12_undo_ok x0
def FX12_nettles (x0 : Nat) (x1 : Int32) : qP Int32 :=
qb (qcl 12 x0) fun _ => qb (FX12_isPlot x0 x1) fun v1 =>
if v1 = 0 then (
qb (qcl 12 x0) fun _ => qb (FX12_bad x0) fun v2 =>
qr v2) else (
qb (gR 12 x0 0) fun v3 =>
qb (aI v3 ((9 : Int32) + x1)) fun v4 =>
qr v4)
set_option maxRecDepth 100000 in
set_option maxHeartbeats 4000000 in
theorem FX12_nettles_ok {l : Launch} {g : qG} {d n : Nat} (x0 : Nat) (x1 : Int32) : qS l g mX12_nettles (d + 2) n 0 0 0 0 cvI 0 [(0, .ref x0), (1, .int x1)] [] (FX12_nettles x0 x1) := by
  unfold FX12_nettles
  refine s_aload_n dX12_nettles_0 rfl ?_
  refine s_iload_n dX12_nettles_1 rfl ?_
  refine s_virtI (as := [.int x1]) (rest := []) dX12_nettles_2 vX12_63 (CX12_isPlot _ _) (Nat.le_of_ble_eq_true rfl) ⟨Nat.le_refl _, Nat.le_refl _⟩ fun v1 => ?_
  refine s_if_eq (tgt := 20) dX12_nettles_5 (by decide) (fun c1 => ?_) (fun c1 => ?_)
  · refine s_aload_n dX12_nettles_20 rfl ?_
    refine s_virtI (as := []) (rest := []) dX12_nettles_21 vX12_74 (CX12_bad _) (Nat.le_of_ble_eq_true rfl) ⟨Nat.le_refl _, Nat.le_refl _⟩ fun v2 => ?_
    exact s_ireturn dX12_nettles_24 rfl rfl
  · refine s_aload_n dX12_nettles_8 rfl ?_
    refine s_gR dX12_nettles_9 fX12_7 fun v3 => ?_
    refine s_bipush (v := 9) dX12_nettles_12 (by decide) ?_
    refine s_iload_n dX12_nettles_14 rfl ?_
    refine s_iadd dX12_nettles_15 ?_
    refine s_aI dX12_nettles_16 fun v4 => ?_
    refine s_goto (tgt := 24) dX12_nettles_17 (by decide) ?_
    exact s_ireturn dX12_nettles_24 rfl rfl
theorem CX12_nettles {l : Launch} {g : qG} {d : Nat} (x0 : Nat) (x1 : Int32) : qCt l g mX12_nettles (d + 2) 0 0 cvI [.ref x0, .int x1] (FX12_nettles x0 x1) := s_of pn_X12 (Nat.le_of_ble_eq_true rfl) fun n => FX12_nettles_ok x0 x1
def FX12_sewn (x0 : Nat) (x1 : Int32) : qP Int32 :=
qb (qcl 12 x0) fun _ => qb (FX12_isShirt x0 x1) fun v1 =>
if v1 = 0 then (
qb (qcl 12 x0) fun _ => qb (FX12_bad x0) fun v2 =>
qr v2) else (
qb (gR 12 x0 0) fun v3 =>
qb (aI v3 ((12 : Int32) + x1)) fun v4 =>
qr v4)
set_option maxRecDepth 100000 in
set_option maxHeartbeats 4000000 in
theorem FX12_sewn_ok {l : Launch} {g : qG} {d n : Nat} (x0 : Nat) (x1 : Int32) : qS l g mX12_sewn (d + 2) n 0 0 0 0 cvI 0 [(0, .ref x0), (1, .int x1)] [] (FX12_sewn x0 x1) := by
  unfold FX12_sewn
  refine s_aload_n dX12_sewn_0 rfl ?_
  refine s_iload_n dX12_sewn_1 rfl ?_
  refine s_virtI (as := [.int x1]) (rest := []) dX12_sewn_2 vX12_67 (CX12_isShirt _ _) (Nat.le_of_ble_eq_true rfl) ⟨Nat.le_refl _, Nat.le_refl _⟩ fun v1 => ?_
  refine s_if_eq (tgt := 20) dX12_sewn_5 (by decide) (fun c1 => ?_) (fun c1 => ?_)
  · refine s_aload_n dX12_sewn_20 rfl ?_
    refine s_virtI (as := []) (rest := []) dX12_sewn_21 vX12_74 (CX12_bad _) (Nat.le_of_ble_eq_true rfl) ⟨Nat.le_refl _, Nat.le_refl _⟩ fun v2 => ?_
    exact s_ireturn dX12_sewn_24 rfl rfl
  · refine s_aload_n dX12_sewn_8 rfl ?_
    refine s_gR dX12_sewn_9 fX12_7 fun v3 => ?_
    refine s_bipush (v := 12) dX12_sewn_12 (by decide) ?_
    refine s_iload_n dX12_sewn_14 rfl ?_
    refine s_iadd dX12_sewn_15 ?_
    refine s_aI dX12_sewn_16 fun v4 => ?_
    refine s_goto (tgt := 24) dX12_sewn_17 (by decide) ?_
    exact s_ireturn dX12_sewn_24 rfl rfl
theorem CX12_sewn {l : Launch} {g : qG} {d : Nat} (x0 : Nat) (x1 : Int32) : qCt l g mX12_sewn (d + 2) 0 0 cvI [.ref x0, .int x1] (FX12_sewn x0 x1) := s_of pn_X12 (Nat.le_of_ble_eq_true rfl) fun n => FX12_sewn_ok x0 x1
def FX12_has (x0 : Nat) (x1 : Int32) : qP Int32 :=
qb (FX12_in (x1).toInt64 (0 : Int64) (1 : Int64)) fun v1 =>
if v1 = 0 then (
qb (qcl 12 x0) fun _ => qb (FX12_bad x0) fun v2 =>
qr v2) else (
qb (gR 12 x0 0) fun v3 =>
qb (aI v3 ((7 : Int32) + x1)) fun v4 =>
qr v4)
set_option maxRecDepth 100000 in
set_option maxHeartbeats 4000000 in
theorem FX12_has_ok {l : Launch} {g : qG} {d n : Nat} (x0 : Nat) (x1 : Int32) : qS l g mX12_has (d + 2) n 0 0 0 0 cvI 0 [(0, .ref x0), (1, .int x1)] [] (FX12_has x0 x1) := by
  unfold FX12_has
  refine s_iload_n dX12_has_0 rfl ?_
  refine s_i2l dX12_has_1 ?_
  refine s_lconst (v := 0) dX12_has_2 (by decide) ?_
  refine s_lconst (v := 1) dX12_has_3 (by decide) ?_
  refine s_staticI (as := [.long (x1).toInt64, .long (0 : Int64), .long (1 : Int64)]) (rest := []) dX12_has_4 sX12_59 (CX12_in _ _ _) (Nat.le_of_ble_eq_true rfl) ⟨Nat.le_refl _, Nat.le_refl _⟩ fun v1 => ?_
  refine s_if_eq (tgt := 22) dX12_has_7 (by decide) (fun c1 => ?_) (fun c1 => ?_)
  · refine s_aload_n dX12_has_22 rfl ?_
    refine s_virtI (as := []) (rest := []) dX12_has_23 vX12_74 (CX12_bad _) (Nat.le_of_ble_eq_true rfl) ⟨Nat.le_refl _, Nat.le_refl _⟩ fun v2 => ?_
    exact s_ireturn dX12_has_26 rfl rfl
  · refine s_aload_n dX12_has_10 rfl ?_
    refine s_gR dX12_has_11 fX12_7 fun v3 => ?_
    refine s_bipush (v := 7) dX12_has_14 (by decide) ?_
    refine s_iload_n dX12_has_16 rfl ?_
    refine s_iadd dX12_has_17 ?_
    refine s_aI dX12_has_18 fun v4 => ?_
    refine s_goto (tgt := 26) dX12_has_19 (by decide) ?_
    exact s_ireturn dX12_has_26 rfl rfl
theorem CX12_has {l : Launch} {g : qG} {d : Nat} (x0 : Nat) (x1 : Int32) : qCt l g mX12_has (d + 2) 0 0 cvI [.ref x0, .int x1] (FX12_has x0 x1) := s_of pn_X12 (Nat.le_of_ble_eq_true rfl) fun n => FX12_has_ok x0 x1
def UX12_areSewn_51 (R : Nat → Int32 → Int32 → Int32 → qP Int32) (x0 : Nat) (x1 : Int32) (x3 : Int32) : qP Int32 :=
R x0 x1 (0 : Int32) (x3 + 1)
set_option maxRecDepth 100000 in
set_option maxHeartbeats 4000000 in
theorem UX12_areSewn_51_ok {l : Launch} {g : qG} {d n : Nat} {R : Nat → Int32 → Int32 → Int32 → qP Int32} (hR : ∀ (x0 : Nat) (x1 : Int32) (x2 : Int32) (x3 : Int32), qS l g mX12_areSewn d n 0 0 0 0 cvI 4 [(0, .ref x0), (1, .int x1), (2, .int x2), (3, .int x3)] [] (R x0 x1 x2 x3)) (x0 : Nat) (x1 : Int32) (x3 : Int32) : qS l g mX12_areSewn d n 0 0 0 0 cvI 51 [(0, .ref x0), (1, .int x1), (3, .int x3)] [] (UX12_areSewn_51 R x0 x1 x3) := by
  unfold UX12_areSewn_51
  refine s_iconst (v := 0) dX12_areSewn_51 (by decide) ?_
  refine s_istore_n (lv' := [(2, .int (0 : Int32)), (0, .ref x0), (1, .int x1), (3, .int x3)]) dX12_areSewn_52 (by decide) rfl ?_
  refine s_iinc (lv' := [(3, .int (x3 + 1)), (2, .int (0 : Int32)), (0, .ref x0), (1, .int x1)]) dX12_areSewn_53 rfl (by decide) rfl ?_
  refine s_goto (tgt := 4) dX12_areSewn_56 (by decide) ?_
  refine s_locals [2, 3, 1, 0] rfl ?_
  exact hR x0 x1 (0 : Int32) (x3 + 1)
def UX12_areSewn_47 (R : Nat → Int32 → Int32 → Int32 → qP Int32) (x0 : Nat) (x1 : Int32) (x3 : Int32) : qP Int32 :=
R x0 x1 (1 : Int32) (x3 + 1)
set_option maxRecDepth 100000 in
set_option maxHeartbeats 4000000 in
theorem UX12_areSewn_47_ok {l : Launch} {g : qG} {d n : Nat} {R : Nat → Int32 → Int32 → Int32 → qP Int32} (hR : ∀ (x0 : Nat) (x1 : Int32) (x2 : Int32) (x3 : Int32), qS l g mX12_areSewn d n 0 0 0 0 cvI 4 [(0, .ref x0), (1, .int x1), (2, .int x2), (3, .int x3)] [] (R x0 x1 x2 x3)) (x0 : Nat) (x1 : Int32) (x3 : Int32) : qS l g mX12_areSewn d n 0 0 0 0 cvI 47 [(0, .ref x0), (1, .int x1), (3, .int x3)] [] (UX12_areSewn_47 R x0 x1 x3) := by
  unfold UX12_areSewn_47
  refine s_iconst (v := 1) dX12_areSewn_47 (by decide) ?_
  refine s_goto (tgt := 52) dX12_areSewn_48 (by decide) ?_
  refine s_istore_n (lv' := [(2, .int (1 : Int32)), (0, .ref x0), (1, .int x1), (3, .int x3)]) dX12_areSewn_52 (by decide) rfl ?_
  refine s_iinc (lv' := [(3, .int (x3 + 1)), (2, .int (1 : Int32)), (0, .ref x0), (1, .int x1)]) dX12_areSewn_53 rfl (by decide) rfl ?_
  refine s_goto (tgt := 4) dX12_areSewn_56 (by decide) ?_
  refine s_locals [2, 3, 1, 0] rfl ?_
  exact hR x0 x1 (1 : Int32) (x3 + 1)
def UX12_areSewn_4 (R : Nat → Int32 → Int32 → Int32 → qP Int32) (x0 : Nat) (x1 : Int32) (x2 : Int32) (x3 : Int32) : qP Int32 :=
qb (gR 12 x0 0) fun v1 =>
qb (aI v1 (1 : Int32)) fun v2 =>
if v2 ≤ x3 then (
qgd (x2 = 0 ∨ x2 = 1) (qr x2)) else (
if x2 = 0 then (
UX12_areSewn_51 R x0 x1 x3) else (
if ((x1 >>> (x3 &&& 31)) &&& (1 : Int32)) = 0 then (
UX12_areSewn_47 R x0 x1 x3) else (
qb (gR 12 x0 8) fun v3 =>
qb (aI v3 ((6 : Int32) + x3)) fun v4 =>
qb (gR 12 x0 0) fun v5 =>
qb (aI v5 ((25 : Int32) + x3)) fun v6 =>
if v4 = v6 then (
UX12_areSewn_47 R x0 x1 x3) else (
UX12_areSewn_51 R x0 x1 x3))))
set_option maxRecDepth 100000 in
set_option maxHeartbeats 4000000 in
theorem UX12_areSewn_4_ok {l : Launch} {g : qG} {d n : Nat} {R : Nat → Int32 → Int32 → Int32 → qP Int32} (hR : ∀ (x0 : Nat) (x1 : Int32) (x2 : Int32) (x3 : Int32), qS l g mX12_areSewn d n 0 0 0 0 cvI 4 [(0, .ref x0), (1, .int x1), (2, .int x2), (3, .int x3)] [] (R x0 x1 x2 x3)) (x0 : Nat) (x1 : Int32) (x2 : Int32) (x3 : Int32) : qS l g mX12_areSewn d n 0 0 0 0 cvI 4 [(0, .ref x0), (1, .int x1), (2, .int x2), (3, .int x3)] [] (UX12_areSewn_4 R x0 x1 x2 x3) := by
  unfold UX12_areSewn_4
  refine s_iload_n dX12_areSewn_4 rfl ?_
  refine s_aload_n dX12_areSewn_5 rfl ?_
  refine s_gR dX12_areSewn_6 fX12_7 fun v1 => ?_
  refine s_iconst (v := 1) dX12_areSewn_9 (by decide) ?_
  refine s_aI dX12_areSewn_10 fun v2 => ?_
  refine s_icmp_ge (tgt := 59) dX12_areSewn_11 (by decide) (fun c1 => ?_) (fun c1 => ?_)
  · refine s_iload_n dX12_areSewn_59 rfl ?_
    exact s_zreturn dX12_areSewn_60 rfl
  · refine s_iload_n dX12_areSewn_14 rfl ?_
    refine s_if_eq (tgt := 51) dX12_areSewn_15 (by decide) (fun c2 => ?_) (fun c2 => ?_)
    · refine s_locals [0, 1, 3] rfl ?_
      exact UX12_areSewn_51_ok hR x0 x1 x3
    · refine s_iload_n dX12_areSewn_18 rfl ?_
      refine s_iload_n dX12_areSewn_19 rfl ?_
      refine s_ishr dX12_areSewn_20 ?_
      refine s_iconst (v := 1) dX12_areSewn_21 (by decide) ?_
      refine s_iand dX12_areSewn_22 ?_
      refine s_if_eq (tgt := 47) dX12_areSewn_23 (by decide) (fun c3 => ?_) (fun c3 => ?_)
      · refine s_locals [0, 1, 3] rfl ?_
        exact UX12_areSewn_47_ok hR x0 x1 x3
      · refine s_aload_n dX12_areSewn_26 rfl ?_
        refine s_gR dX12_areSewn_27 fX12_26 fun v3 => ?_
        refine s_bipush (v := 6) dX12_areSewn_30 (by decide) ?_
        refine s_iload_n dX12_areSewn_32 rfl ?_
        refine s_iadd dX12_areSewn_33 ?_
        refine s_aI dX12_areSewn_34 fun v4 => ?_
        refine s_aload_n dX12_areSewn_35 rfl ?_
        refine s_gR dX12_areSewn_36 fX12_7 fun v5 => ?_
        refine s_bipush (v := 25) dX12_areSewn_39 (by decide) ?_
        refine s_iload_n dX12_areSewn_41 rfl ?_
        refine s_iadd dX12_areSewn_42 ?_
        refine s_aI dX12_areSewn_43 fun v6 => ?_
        refine s_icmp_ne (tgt := 51) dX12_areSewn_44 (by decide) (fun c4 => ?_) (fun c4 => ?_)
        · refine s_locals [0, 1, 3] rfl ?_
          exact UX12_areSewn_47_ok hR x0 x1 x3
        · refine s_locals [0, 1, 3] rfl ?_
          exact UX12_areSewn_51_ok hR x0 x1 x3
def WX12_areSewn_4 : Nat → Nat → Int32 → Int32 → Int32 → qP Int32
  | 0 => fun _ _ _ _ => qfail
  | N + 1 => fun x0 x1 x2 x3 => UX12_areSewn_4 (WX12_areSewn_4  N)  x0 x1 x2 x3
theorem WX12_areSewn_4_ok {l : Launch} {g : qG} {d n : Nat} : ∀ (N : Nat) (x0 : Nat) (x1 : Int32) (x2 : Int32) (x3 : Int32), qS l g mX12_areSewn d n 0 0 0 0 cvI 4 [(0, .ref x0), (1, .int x1), (2, .int x2), (3, .int x3)] [] (WX12_areSewn_4  N x0 x1 x2 x3) := by
  intro N
  induction N with
  | zero => intro x0 x1 x2 x3; exact s_fail
  | succ N ih => intro x0 x1 x2 x3; exact UX12_areSewn_4_ok ih  x0 x1 x2 x3
def FX12_areSewn (x0 : Nat) (x1 : Int32) : qP Int32 :=
WX12_areSewn_4 1000000 x0 x1 (1 : Int32) (0 : Int32)
set_option maxRecDepth 100000 in
set_option maxHeartbeats 4000000 in
theorem FX12_areSewn_ok {l : Launch} {g : qG} {d n : Nat} (x0 : Nat) (x1 : Int32) : qS l g mX12_areSewn d n 0 0 0 0 cvI 0 [(0, .ref x0), (1, .int x1)] [] (FX12_areSewn x0 x1) := by
  unfold FX12_areSewn
  refine s_iconst (v := 1) dX12_areSewn_0 (by decide) ?_
  refine s_istore_n (lv' := [(2, .int (1 : Int32)), (0, .ref x0), (1, .int x1)]) dX12_areSewn_1 (by decide) rfl ?_
  refine s_iconst (v := 0) dX12_areSewn_2 (by decide) ?_
  refine s_istore_n (lv' := [(3, .int (0 : Int32)), (2, .int (1 : Int32)), (0, .ref x0), (1, .int x1)]) dX12_areSewn_3 (by decide) rfl ?_
  refine s_locals [2, 3, 1, 0] rfl ?_
  exact WX12_areSewn_4_ok  1000000 x0 x1 (1 : Int32) (0 : Int32)
theorem CX12_areSewn {l : Launch} {g : qG} {d : Nat} (x0 : Nat) (x1 : Int32) : qCt l g mX12_areSewn d 0 0 cvI [.ref x0, .int x1] (FX12_areSewn x0 x1) := s_of pn_X12 (Nat.le_of_ble_eq_true rfl) fun n => FX12_areSewn_ok x0 x1
def UX12_plans_74 (R : Nat → Int32 → Int32 → Int32 → Int32 → Int32 → Int32 → Int32 → qP Int32) (K83 : Nat → Int32 → Int32 → Int32 → Int32 → Int32 → Int32 → qP Int32) (x0 : Nat) (x1 : Int32) (x2 : Int32) (x3 : Int32) (x4 : Int32) (x5 : Int32) (x7 : Int32) : qP Int32 :=
R x0 x1 x2 x3 x4 x5 (0 : Int32) (x7 + 1)
set_option maxRecDepth 100000 in
set_option maxHeartbeats 4000000 in
theorem UX12_plans_74_ok {l : Launch} {g : qG} {d n : Nat} {R : Nat → Int32 → Int32 → Int32 → Int32 → Int32 → Int32 → Int32 → qP Int32} (hR : ∀ (x0 : Nat) (x1 : Int32) (x2 : Int32) (x3 : Int32) (x4 : Int32) (x5 : Int32) (x6 : Int32) (x7 : Int32), qS l g mX12_plans (d + 3) n 0 0 0 0 cvI 24 [(0, .ref x0), (1, .int x1), (2, .int x2), (3, .int x3), (4, .int x4), (5, .int x5), (6, .int x6), (7, .int x7)] [] (R x0 x1 x2 x3 x4 x5 x6 x7)) {K83 : Nat → Int32 → Int32 → Int32 → Int32 → Int32 → Int32 → qP Int32} (hK83 : ∀ (x0 : Nat) (x1 : Int32) (x2 : Int32) (x3 : Int32) (x4 : Int32) (x5 : Int32) (x6 : Int32), qS l g mX12_plans (d + 3) n 0 0 0 0 cvI 83 [(0, .ref x0), (1, .int x1), (2, .int x2), (3, .int x3), (4, .int x4), (5, .int x5), (6, .int x6)] [] (K83 x0 x1 x2 x3 x4 x5 x6)) (x0 : Nat) (x1 : Int32) (x2 : Int32) (x3 : Int32) (x4 : Int32) (x5 : Int32) (x7 : Int32) : qS l g mX12_plans (d + 3) n 0 0 0 0 cvI 74 [(0, .ref x0), (1, .int x1), (2, .int x2), (3, .int x3), (4, .int x4), (5, .int x5), (7, .int x7)] [] (UX12_plans_74 R K83 x0 x1 x2 x3 x4 x5 x7) := by
  unfold UX12_plans_74
  refine s_iconst (v := 0) dX12_plans_74 (by decide) ?_
  refine s_istore (lv' := [(6, .int (0 : Int32)), (0, .ref x0), (1, .int x1), (2, .int x2), (3, .int x3), (4, .int x4), (5, .int x5), (7, .int x7)]) dX12_plans_75 (by decide) rfl ?_
  refine s_iinc (lv' := [(7, .int (x7 + 1)), (6, .int (0 : Int32)), (0, .ref x0), (1, .int x1), (2, .int x2), (3, .int x3), (4, .int x4), (5, .int x5)]) dX12_plans_77 rfl (by decide) rfl ?_
  refine s_goto (tgt := 24) dX12_plans_80 (by decide) ?_
  refine s_locals [2, 3, 4, 5, 6, 7, 1, 0] rfl ?_
  exact hR x0 x1 x2 x3 x4 x5 (0 : Int32) (x7 + 1)
def UX12_plans_24 (R : Nat → Int32 → Int32 → Int32 → Int32 → Int32 → Int32 → Int32 → qP Int32) (K83 : Nat → Int32 → Int32 → Int32 → Int32 → Int32 → Int32 → qP Int32) (x0 : Nat) (x1 : Int32) (x2 : Int32) (x3 : Int32) (x4 : Int32) (x5 : Int32) (x6 : Int32) (x7 : Int32) : qP Int32 :=
if x1 ≤ x7 then (
K83 x0 x1 x2 x3 x4 x5 x6) else (
qb (gR 12 x0 9) fun v1 =>
qb (sI v1 x7 ((x5 >>> (((3 : Int32) * ((x1 - (1 : Int32)) - x7)) &&& 31)) &&& (7 : Int32))) fun _ =>
if x6 = 0 then (
UX12_plans_74 R K83 x0 x1 x2 x3 x4 x5 x7) else (
qb (gR 12 x0 9) fun v2 =>
qb (aI v2 x7) fun v3 =>
qb (qcl 12 x0) fun _ => qb (FX12_isNight x0 v3) fun v4 =>
if v4 = 0 then (
UX12_plans_74 R K83 x0 x1 x2 x3 x4 x5 x7) else (
R x0 x1 x2 x3 x4 x5 (1 : Int32) (x7 + 1))))
set_option maxRecDepth 100000 in
set_option maxHeartbeats 4000000 in
theorem UX12_plans_24_ok {l : Launch} {g : qG} {d n : Nat} {R : Nat → Int32 → Int32 → Int32 → Int32 → Int32 → Int32 → Int32 → qP Int32} (hR : ∀ (x0 : Nat) (x1 : Int32) (x2 : Int32) (x3 : Int32) (x4 : Int32) (x5 : Int32) (x6 : Int32) (x7 : Int32), qS l g mX12_plans (d + 3) n 0 0 0 0 cvI 24 [(0, .ref x0), (1, .int x1), (2, .int x2), (3, .int x3), (4, .int x4), (5, .int x5), (6, .int x6), (7, .int x7)] [] (R x0 x1 x2 x3 x4 x5 x6 x7)) {K83 : Nat → Int32 → Int32 → Int32 → Int32 → Int32 → Int32 → qP Int32} (hK83 : ∀ (x0 : Nat) (x1 : Int32) (x2 : Int32) (x3 : Int32) (x4 : Int32) (x5 : Int32) (x6 : Int32), qS l g mX12_plans (d + 3) n 0 0 0 0 cvI 83 [(0, .ref x0), (1, .int x1), (2, .int x2), (3, .int x3), (4, .int x4), (5, .int x5), (6, .int x6)] [] (K83 x0 x1 x2 x3 x4 x5 x6)) (x0 : Nat) (x1 : Int32) (x2 : Int32) (x3 : Int32) (x4 : Int32) (x5 : Int32) (x6 : Int32) (x7 : Int32) : qS l g mX12_plans (d + 3) n 0 0 0 0 cvI 24 [(0, .ref x0), (1, .int x1), (2, .int x2), (3, .int x3), (4, .int x4), (5, .int x5), (6, .int x6), (7, .int x7)] [] (UX12_plans_24 R K83 x0 x1 x2 x3 x4 x5 x6 x7) := by
  unfold UX12_plans_24
  refine s_iload dX12_plans_24 rfl ?_
  refine s_iload_n dX12_plans_26 rfl ?_
  refine s_icmp_ge (tgt := 83) dX12_plans_27 (by decide) (fun c1 => ?_) (fun c1 => ?_)
  · refine s_locals [0, 1, 2, 3, 4, 5, 6] rfl ?_
    exact hK83 x0 x1 x2 x3 x4 x5 x6
  · refine s_aload_n dX12_plans_30 rfl ?_
    refine s_gR dX12_plans_31 fX12_29 fun v1 => ?_
    refine s_iload dX12_plans_34 rfl ?_
    refine s_iload dX12_plans_36 rfl ?_
    refine s_iconst (v := 3) dX12_plans_38 (by decide) ?_
    refine s_iload_n dX12_plans_39 rfl ?_
    refine s_iconst (v := 1) dX12_plans_40 (by decide) ?_
    refine s_isub dX12_plans_41 ?_
    refine s_iload dX12_plans_42 rfl ?_
    refine s_isub dX12_plans_44 ?_
    refine s_imul dX12_plans_45 ?_
    refine s_ishr dX12_plans_46 ?_
    refine s_bipush (v := 7) dX12_plans_47 (by decide) ?_
    refine s_iand dX12_plans_49 ?_
    refine s_sI dX12_plans_50 ?_
    refine s_iload dX12_plans_51 rfl ?_
    refine s_if_eq (tgt := 74) dX12_plans_53 (by decide) (fun c2 => ?_) (fun c2 => ?_)
    · refine s_locals [0, 1, 2, 3, 4, 5, 7] rfl ?_
      exact UX12_plans_74_ok hR hK83 x0 x1 x2 x3 x4 x5 x7
    · refine s_aload_n dX12_plans_56 rfl ?_
      refine s_aload_n dX12_plans_57 rfl ?_
      refine s_gR dX12_plans_58 fX12_29 fun v2 => ?_
      refine s_iload dX12_plans_61 rfl ?_
      refine s_aI dX12_plans_63 fun v3 => ?_
      refine s_virtI (as := [.int v3]) (rest := []) dX12_plans_64 vX12_96 (CX12_isNight _ _) (Nat.le_of_ble_eq_true rfl) ⟨Nat.le_refl _, Nat.le_refl _⟩ fun v4 => ?_
      refine s_if_eq (tgt := 74) dX12_plans_67 (by decide) (fun c3 => ?_) (fun c3 => ?_)
      · refine s_locals [0, 1, 2, 3, 4, 5, 7] rfl ?_
        exact UX12_plans_74_ok hR hK83 x0 x1 x2 x3 x4 x5 x7
      · refine s_iconst (v := 1) dX12_plans_70 (by decide) ?_
        refine s_goto (tgt := 75) dX12_plans_71 (by decide) ?_
        refine s_istore (lv' := [(6, .int (1 : Int32)), (0, .ref x0), (1, .int x1), (2, .int x2), (3, .int x3), (4, .int x4), (5, .int x5), (7, .int x7)]) dX12_plans_75 (by decide) rfl ?_
        refine s_iinc (lv' := [(7, .int (x7 + 1)), (6, .int (1 : Int32)), (0, .ref x0), (1, .int x1), (2, .int x2), (3, .int x3), (4, .int x4), (5, .int x5)]) dX12_plans_77 rfl (by decide) rfl ?_
        refine s_goto (tgt := 24) dX12_plans_80 (by decide) ?_
        refine s_locals [2, 3, 4, 5, 6, 7, 1, 0] rfl ?_
        exact hR x0 x1 x2 x3 x4 x5 (1 : Int32) (x7 + 1)
def WX12_plans_24 (K83 : Nat → Int32 → Int32 → Int32 → Int32 → Int32 → Int32 → qP Int32) : Nat → Nat → Int32 → Int32 → Int32 → Int32 → Int32 → Int32 → Int32 → qP Int32
  | 0 => fun _ _ _ _ _ _ _ _ => qfail
  | N + 1 => fun x0 x1 x2 x3 x4 x5 x6 x7 => UX12_plans_24 (WX12_plans_24 K83 N) K83 x0 x1 x2 x3 x4 x5 x6 x7
theorem WX12_plans_24_ok {l : Launch} {g : qG} {d n : Nat} {K83 : Nat → Int32 → Int32 → Int32 → Int32 → Int32 → Int32 → qP Int32} (hK83 : ∀ (x0 : Nat) (x1 : Int32) (x2 : Int32) (x3 : Int32) (x4 : Int32) (x5 : Int32) (x6 : Int32), qS l g mX12_plans (d + 3) n 0 0 0 0 cvI 83 [(0, .ref x0), (1, .int x1), (2, .int x2), (3, .int x3), (4, .int x4), (5, .int x5), (6, .int x6)] [] (K83 x0 x1 x2 x3 x4 x5 x6)) : ∀ (N : Nat) (x0 : Nat) (x1 : Int32) (x2 : Int32) (x3 : Int32) (x4 : Int32) (x5 : Int32) (x6 : Int32) (x7 : Int32), qS l g mX12_plans (d + 3) n 0 0 0 0 cvI 24 [(0, .ref x0), (1, .int x1), (2, .int x2), (3, .int x3), (4, .int x4), (5, .int x5), (6, .int x6), (7, .int x7)] [] (WX12_plans_24 K83 N x0 x1 x2 x3 x4 x5 x6 x7) := by
  intro N
  induction N with
  | zero => intro x0 x1 x2 x3 x4 x5 x6 x7; exact s_fail
  | succ N ih => intro x0 x1 x2 x3 x4 x5 x6 x7; exact UX12_plans_24_ok ih hK83 x0 x1 x2 x3 x4 x5 x6 x7
def UX12_plans_145 (R : Nat → Int32 → Int32 → Int32 → Int32 → Int32 → Int32 → Int32 → Int32 → qP Int32) (K154 : Nat → Int32 → Int32 → Int32 → Int32 → Int32 → Int32 → Int32 → qP Int32) (x0 : Nat) (x1 : Int32) (x2 : Int32) (x3 : Int32) (x4 : Int32) (x5 : Int32) (x6 : Int32) (x8 : Int32) (s0 : Int32) (s1 : Int32) : qP Int32 :=
R x0 x1 x2 x3 x4 x5 x6 (s0 + s1) (x8 + 1)
set_option maxRecDepth 100000 in
set_option maxHeartbeats 4000000 in
theorem UX12_plans_145_ok {l : Launch} {g : qG} {d n : Nat} {R : Nat → Int32 → Int32 → Int32 → Int32 → Int32 → Int32 → Int32 → Int32 → qP Int32} (hR : ∀ (x0 : Nat) (x1 : Int32) (x2 : Int32) (x3 : Int32) (x4 : Int32) (x5 : Int32) (x6 : Int32) (x7 : Int32) (x8 : Int32), qS l g mX12_plans (d + 3) n 0 0 0 0 cvI 93 [(0, .ref x0), (1, .int x1), (2, .int x2), (3, .int x3), (4, .int x4), (5, .int x5), (6, .int x6), (7, .int x7), (8, .int x8)] [] (R x0 x1 x2 x3 x4 x5 x6 x7 x8)) {K154 : Nat → Int32 → Int32 → Int32 → Int32 → Int32 → Int32 → Int32 → qP Int32} (hK154 : ∀ (x0 : Nat) (x1 : Int32) (x2 : Int32) (x3 : Int32) (x4 : Int32) (x5 : Int32) (x6 : Int32) (x7 : Int32), qS l g mX12_plans (d + 3) n 0 0 0 0 cvI 154 [(0, .ref x0), (1, .int x1), (2, .int x2), (3, .int x3), (4, .int x4), (5, .int x5), (6, .int x6), (7, .int x7)] [] (K154 x0 x1 x2 x3 x4 x5 x6 x7)) (x0 : Nat) (x1 : Int32) (x2 : Int32) (x3 : Int32) (x4 : Int32) (x5 : Int32) (x6 : Int32) (x8 : Int32) (s0 : Int32) (s1 : Int32) : qS l g mX12_plans (d + 3) n 0 0 0 0 cvI 145 [(0, .ref x0), (1, .int x1), (2, .int x2), (3, .int x3), (4, .int x4), (5, .int x5), (6, .int x6), (8, .int x8)] [.int s1, .int s0] (UX12_plans_145 R K154 x0 x1 x2 x3 x4 x5 x6 x8 s0 s1) := by
  unfold UX12_plans_145
  refine s_iadd dX12_plans_145 ?_
  refine s_istore (lv' := [(7, .int (s0 + s1)), (0, .ref x0), (1, .int x1), (2, .int x2), (3, .int x3), (4, .int x4), (5, .int x5), (6, .int x6), (8, .int x8)]) dX12_plans_146 (by decide) rfl ?_
  refine s_iinc (lv' := [(8, .int (x8 + 1)), (7, .int (s0 + s1)), (0, .ref x0), (1, .int x1), (2, .int x2), (3, .int x3), (4, .int x4), (5, .int x5), (6, .int x6)]) dX12_plans_148 rfl (by decide) rfl ?_
  refine s_goto (tgt := 93) dX12_plans_151 (by decide) ?_
  refine s_locals [2, 3, 4, 5, 6, 7, 8, 1, 0] rfl ?_
  exact hR x0 x1 x2 x3 x4 x5 x6 (s0 + s1) (x8 + 1)
def UX12_plans_93 (R : Nat → Int32 → Int32 → Int32 → Int32 → Int32 → Int32 → Int32 → Int32 → qP Int32) (K154 : Nat → Int32 → Int32 → Int32 → Int32 → Int32 → Int32 → Int32 → qP Int32) (x0 : Nat) (x1 : Int32) (x2 : Int32) (x3 : Int32) (x4 : Int32) (x5 : Int32) (x6 : Int32) (x7 : Int32) (x8 : Int32) : qP Int32 :=
if x1 ≤ x8 then (
K154 x0 x1 x2 x3 x4 x5 x6 x7) else (
if x6 = 0 then (
K154 x0 x1 x2 x3 x4 x5 x6 x7) else (
qb (gR 12 x0 9) fun v1 =>
qb (aI v1 x8) fun v2 =>
qb (qcl 12 x0) fun _ => qb (FX12_goes x0 v2) fun v3 =>
qb (gR 12 x0 9) fun v4 =>
qb (aI v4 x8) fun v5 =>
qb (FX12_in (v5).toInt64 (3 : Int64) (6 : Int64)) fun v6 =>
if v6 = 0 then (
UX12_plans_145 R K154 x0 x1 x2 x3 x4 x5 x6 x8 x7 (0 : Int32)) else (
UX12_plans_145 R K154 x0 x1 x2 x3 x4 x5 x6 x8 x7 v3)))
set_option maxRecDepth 100000 in
set_option maxHeartbeats 4000000 in
theorem UX12_plans_93_ok {l : Launch} {g : qG} {d n : Nat} {R : Nat → Int32 → Int32 → Int32 → Int32 → Int32 → Int32 → Int32 → Int32 → qP Int32} (hR : ∀ (x0 : Nat) (x1 : Int32) (x2 : Int32) (x3 : Int32) (x4 : Int32) (x5 : Int32) (x6 : Int32) (x7 : Int32) (x8 : Int32), qS l g mX12_plans (d + 3) n 0 0 0 0 cvI 93 [(0, .ref x0), (1, .int x1), (2, .int x2), (3, .int x3), (4, .int x4), (5, .int x5), (6, .int x6), (7, .int x7), (8, .int x8)] [] (R x0 x1 x2 x3 x4 x5 x6 x7 x8)) {K154 : Nat → Int32 → Int32 → Int32 → Int32 → Int32 → Int32 → Int32 → qP Int32} (hK154 : ∀ (x0 : Nat) (x1 : Int32) (x2 : Int32) (x3 : Int32) (x4 : Int32) (x5 : Int32) (x6 : Int32) (x7 : Int32), qS l g mX12_plans (d + 3) n 0 0 0 0 cvI 154 [(0, .ref x0), (1, .int x1), (2, .int x2), (3, .int x3), (4, .int x4), (5, .int x5), (6, .int x6), (7, .int x7)] [] (K154 x0 x1 x2 x3 x4 x5 x6 x7)) (x0 : Nat) (x1 : Int32) (x2 : Int32) (x3 : Int32) (x4 : Int32) (x5 : Int32) (x6 : Int32) (x7 : Int32) (x8 : Int32) : qS l g mX12_plans (d + 3) n 0 0 0 0 cvI 93 [(0, .ref x0), (1, .int x1), (2, .int x2), (3, .int x3), (4, .int x4), (5, .int x5), (6, .int x6), (7, .int x7), (8, .int x8)] [] (UX12_plans_93 R K154 x0 x1 x2 x3 x4 x5 x6 x7 x8) := by
  unfold UX12_plans_93
  refine s_iload dX12_plans_93 rfl ?_
  refine s_iload_n dX12_plans_95 rfl ?_
  refine s_icmp_ge (tgt := 154) dX12_plans_96 (by decide) (fun c1 => ?_) (fun c1 => ?_)
  · refine s_locals [0, 1, 2, 3, 4, 5, 6, 7] rfl ?_
    exact hK154 x0 x1 x2 x3 x4 x5 x6 x7
  · refine s_iload dX12_plans_99 rfl ?_
    refine s_if_eq (tgt := 154) dX12_plans_101 (by decide) (fun c2 => ?_) (fun c2 => ?_)
    · refine s_locals [0, 1, 2, 3, 4, 5, 6, 7] rfl ?_
      exact hK154 x0 x1 x2 x3 x4 x5 x6 x7
    · refine s_aload_n dX12_plans_104 rfl ?_
      refine s_aload_n dX12_plans_105 rfl ?_
      refine s_gR dX12_plans_106 fX12_29 fun v1 => ?_
      refine s_iload dX12_plans_109 rfl ?_
      refine s_aI dX12_plans_111 fun v2 => ?_
      refine s_virtI (as := [.int v2]) (rest := []) dX12_plans_112 vX12_102 (CX12_goes _ _) (Nat.le_of_ble_eq_true rfl) ⟨Nat.le_refl _, Nat.le_refl _⟩ fun v3 => ?_
      refine s_istore (lv' := [(9, .int v3), (0, .ref x0), (1, .int x1), (2, .int x2), (3, .int x3), (4, .int x4), (5, .int x5), (6, .int x6), (7, .int x7), (8, .int x8)]) dX12_plans_115 (by decide) rfl ?_
      refine s_iload dX12_plans_117 rfl ?_
      refine s_aload_n dX12_plans_119 rfl ?_
      refine s_gR dX12_plans_120 fX12_29 fun v4 => ?_
      refine s_iload dX12_plans_123 rfl ?_
      refine s_aI dX12_plans_125 fun v5 => ?_
      refine s_i2l dX12_plans_126 ?_
      refine s_ldc2 dX12_plans_127 lX12_108 ?_
      refine s_ldc2 dX12_plans_130 lX12_110 ?_
      refine s_staticI (as := [.long (v5).toInt64, .long (3 : Int64), .long (6 : Int64)]) (rest := [.int x7]) dX12_plans_133 sX12_59 (CX12_in _ _ _) (Nat.le_of_ble_eq_true rfl) ⟨Nat.le_refl _, Nat.le_refl _⟩ fun v6 => ?_
      refine s_if_eq (tgt := 144) dX12_plans_136 (by decide) (fun c3 => ?_) (fun c3 => ?_)
      · refine s_iconst (v := 0) dX12_plans_144 (by decide) ?_
        refine s_locals [1, 2, 3, 4, 5, 6, 7, 9] rfl ?_
        exact UX12_plans_145_ok hR hK154 x0 x1 x2 x3 x4 x5 x6 x8 x7 (0 : Int32)
      · refine s_iload dX12_plans_139 rfl ?_
        refine s_goto (tgt := 145) dX12_plans_141 (by decide) ?_
        refine s_locals [1, 2, 3, 4, 5, 6, 7, 9] rfl ?_
        exact UX12_plans_145_ok hR hK154 x0 x1 x2 x3 x4 x5 x6 x8 x7 v3
def WX12_plans_93 (K154 : Nat → Int32 → Int32 → Int32 → Int32 → Int32 → Int32 → Int32 → qP Int32) : Nat → Nat → Int32 → Int32 → Int32 → Int32 → Int32 → Int32 → Int32 → Int32 → qP Int32
  | 0 => fun _ _ _ _ _ _ _ _ _ => qfail
  | N + 1 => fun x0 x1 x2 x3 x4 x5 x6 x7 x8 => UX12_plans_93 (WX12_plans_93 K154 N) K154 x0 x1 x2 x3 x4 x5 x6 x7 x8
theorem WX12_plans_93_ok {l : Launch} {g : qG} {d n : Nat} {K154 : Nat → Int32 → Int32 → Int32 → Int32 → Int32 → Int32 → Int32 → qP Int32} (hK154 : ∀ (x0 : Nat) (x1 : Int32) (x2 : Int32) (x3 : Int32) (x4 : Int32) (x5 : Int32) (x6 : Int32) (x7 : Int32), qS l g mX12_plans (d + 3) n 0 0 0 0 cvI 154 [(0, .ref x0), (1, .int x1), (2, .int x2), (3, .int x3), (4, .int x4), (5, .int x5), (6, .int x6), (7, .int x7)] [] (K154 x0 x1 x2 x3 x4 x5 x6 x7)) : ∀ (N : Nat) (x0 : Nat) (x1 : Int32) (x2 : Int32) (x3 : Int32) (x4 : Int32) (x5 : Int32) (x6 : Int32) (x7 : Int32) (x8 : Int32), qS l g mX12_plans (d + 3) n 0 0 0 0 cvI 93 [(0, .ref x0), (1, .int x1), (2, .int x2), (3, .int x3), (4, .int x4), (5, .int x5), (6, .int x6), (7, .int x7), (8, .int x8)] [] (WX12_plans_93 K154 N x0 x1 x2 x3 x4 x5 x6 x7 x8) := by
  intro N
  induction N with
  | zero => intro x0 x1 x2 x3 x4 x5 x6 x7 x8; exact s_fail
  | succ N ih => intro x0 x1 x2 x3 x4 x5 x6 x7 x8; exact UX12_plans_93_ok ih hK154 x0 x1 x2 x3 x4 x5 x6 x7 x8
def UX12_plans_181 (R : Nat → Int32 → Int32 → Int32 → Int32 → Int32 → Int32 → qP Int32) (K207 : Nat → Int32 → Int32 → Int32 → Int32 → Int32 → qP Int32) (x0 : Nat) (x1 : Int32) (x2 : Int32) (x3 : Int32) (x4 : Int32) (x5 : Int32) (x8 : Int32) : qP Int32 :=
if x1 ≤ x8 then (
K207 x0 x1 x2 x3 x4 x5) else (
qb (gR 12 x0 10) fun v1 =>
qb (gR 12 x0 9) fun v2 =>
qb (aI v2 x8) fun v3 =>
qb (sI v1 x8 v3) fun _ =>
R x0 x1 x2 x3 x4 x5 (x8 + 1))
set_option maxRecDepth 100000 in
set_option maxHeartbeats 4000000 in
theorem UX12_plans_181_ok {l : Launch} {g : qG} {d n : Nat} {R : Nat → Int32 → Int32 → Int32 → Int32 → Int32 → Int32 → qP Int32} (hR : ∀ (x0 : Nat) (x1 : Int32) (x2 : Int32) (x3 : Int32) (x4 : Int32) (x5 : Int32) (x8 : Int32), qS l g mX12_plans (d + 3) n 0 0 0 0 cvI 181 [(0, .ref x0), (1, .int x1), (2, .int x2), (3, .int x3), (4, .int x4), (5, .int x5), (8, .int x8)] [] (R x0 x1 x2 x3 x4 x5 x8)) {K207 : Nat → Int32 → Int32 → Int32 → Int32 → Int32 → qP Int32} (hK207 : ∀ (x0 : Nat) (x1 : Int32) (x2 : Int32) (x3 : Int32) (x4 : Int32) (x5 : Int32), qS l g mX12_plans (d + 3) n 0 0 0 0 cvI 207 [(0, .ref x0), (1, .int x1), (2, .int x2), (3, .int x3), (4, .int x4), (5, .int x5)] [] (K207 x0 x1 x2 x3 x4 x5)) (x0 : Nat) (x1 : Int32) (x2 : Int32) (x3 : Int32) (x4 : Int32) (x5 : Int32) (x8 : Int32) : qS l g mX12_plans (d + 3) n 0 0 0 0 cvI 181 [(0, .ref x0), (1, .int x1), (2, .int x2), (3, .int x3), (4, .int x4), (5, .int x5), (8, .int x8)] [] (UX12_plans_181 R K207 x0 x1 x2 x3 x4 x5 x8) := by
  unfold UX12_plans_181
  refine s_iload dX12_plans_181 rfl ?_
  refine s_iload_n dX12_plans_183 rfl ?_
  refine s_icmp_ge (tgt := 207) dX12_plans_184 (by decide) (fun c1 => ?_) (fun c1 => ?_)
  · refine s_locals [0, 1, 2, 3, 4, 5] rfl ?_
    exact hK207 x0 x1 x2 x3 x4 x5
  · refine s_aload_n dX12_plans_187 rfl ?_
    refine s_gR dX12_plans_188 fX12_32 fun v1 => ?_
    refine s_iload dX12_plans_191 rfl ?_
    refine s_aload_n dX12_plans_193 rfl ?_
    refine s_gR dX12_plans_194 fX12_29 fun v2 => ?_
    refine s_iload dX12_plans_197 rfl ?_
    refine s_aI dX12_plans_199 fun v3 => ?_
    refine s_sI dX12_plans_200 ?_
    refine s_iinc (lv' := [(8, .int (x8 + 1)), (0, .ref x0), (1, .int x1), (2, .int x2), (3, .int x3), (4, .int x4), (5, .int x5)]) dX12_plans_201 rfl (by decide) rfl ?_
    refine s_goto (tgt := 181) dX12_plans_204 (by decide) ?_
    refine s_locals [1, 2, 3, 4, 5, 6, 0] rfl ?_
    exact hR x0 x1 x2 x3 x4 x5 (x8 + 1)
def WX12_plans_181 (K207 : Nat → Int32 → Int32 → Int32 → Int32 → Int32 → qP Int32) : Nat → Nat → Int32 → Int32 → Int32 → Int32 → Int32 → Int32 → qP Int32
  | 0 => fun _ _ _ _ _ _ _ => qfail
  | N + 1 => fun x0 x1 x2 x3 x4 x5 x8 => UX12_plans_181 (WX12_plans_181 K207 N) K207 x0 x1 x2 x3 x4 x5 x8
theorem WX12_plans_181_ok {l : Launch} {g : qG} {d n : Nat} {K207 : Nat → Int32 → Int32 → Int32 → Int32 → Int32 → qP Int32} (hK207 : ∀ (x0 : Nat) (x1 : Int32) (x2 : Int32) (x3 : Int32) (x4 : Int32) (x5 : Int32), qS l g mX12_plans (d + 3) n 0 0 0 0 cvI 207 [(0, .ref x0), (1, .int x1), (2, .int x2), (3, .int x3), (4, .int x4), (5, .int x5)] [] (K207 x0 x1 x2 x3 x4 x5)) : ∀ (N : Nat) (x0 : Nat) (x1 : Int32) (x2 : Int32) (x3 : Int32) (x4 : Int32) (x5 : Int32) (x8 : Int32), qS l g mX12_plans (d + 3) n 0 0 0 0 cvI 181 [(0, .ref x0), (1, .int x1), (2, .int x2), (3, .int x3), (4, .int x4), (5, .int x5), (8, .int x8)] [] (WX12_plans_181 K207 N x0 x1 x2 x3 x4 x5 x8) := by
  intro N
  induction N with
  | zero => intro x0 x1 x2 x3 x4 x5 x8; exact s_fail
  | succ N ih => intro x0 x1 x2 x3 x4 x5 x8; exact UX12_plans_181_ok ih hK207 x0 x1 x2 x3 x4 x5 x8
def UX12_plans_207 (R : Nat → Int32 → Int32 → Int32 → Int32 → Int32 → qP Int32) (x0 : Nat) (x1 : Int32) (x2 : Int32) (x3 : Int32) (x4 : Int32) (x5 : Int32) : qP Int32 :=
R x0 x1 x2 x3 x4 (x5 + 1)
set_option maxRecDepth 100000 in
set_option maxHeartbeats 4000000 in
theorem UX12_plans_207_ok {l : Launch} {g : qG} {d n : Nat} {R : Nat → Int32 → Int32 → Int32 → Int32 → Int32 → qP Int32} (hR : ∀ (x0 : Nat) (x1 : Int32) (x2 : Int32) (x3 : Int32) (x4 : Int32) (x5 : Int32), qS l g mX12_plans (d + 3) n 0 0 0 0 cvI 12 [(0, .ref x0), (1, .int x1), (2, .int x2), (3, .int x3), (4, .int x4), (5, .int x5)] [] (R x0 x1 x2 x3 x4 x5)) (x0 : Nat) (x1 : Int32) (x2 : Int32) (x3 : Int32) (x4 : Int32) (x5 : Int32) : qS l g mX12_plans (d + 3) n 0 0 0 0 cvI 207 [(0, .ref x0), (1, .int x1), (2, .int x2), (3, .int x3), (4, .int x4), (5, .int x5)] [] (UX12_plans_207 R x0 x1 x2 x3 x4 x5) := by
  unfold UX12_plans_207
  refine s_iinc (lv' := [(5, .int (x5 + 1)), (0, .ref x0), (1, .int x1), (2, .int x2), (3, .int x3), (4, .int x4)]) dX12_plans_207 rfl (by decide) rfl ?_
  refine s_goto (tgt := 12) dX12_plans_210 (by decide) ?_
  refine s_locals [1, 2, 3, 4, 5, 0] rfl ?_
  exact hR x0 x1 x2 x3 x4 (x5 + 1)
def UX12_plans_154 (R : Nat → Int32 → Int32 → Int32 → Int32 → Int32 → qP Int32) (x0 : Nat) (x1 : Int32) (x2 : Int32) (x3 : Int32) (x4 : Int32) (x5 : Int32) (x6 : Int32) (x7 : Int32) : qP Int32 :=
if x6 = 0 then (
R x0 x1 x2 x3 x4 (x5 + 1)) else (
if x7 ≤ x4 then (
R x0 x1 x2 x3 x4 (x5 + 1)) else (
qb (qcl 12 x0) fun _ => qb (FX12_areSewn x0 x2) fun v1 =>
if v1 = 0 then (
R x0 x1 x2 x3 x4 (x5 + 1)) else (
WX12_plans_181 (UX12_plans_207 R) 1000000 x0 x1 x2 x3 x7 x5 (0 : Int32))))
set_option maxRecDepth 100000 in
set_option maxHeartbeats 4000000 in
theorem UX12_plans_154_ok {l : Launch} {g : qG} {d n : Nat} {R : Nat → Int32 → Int32 → Int32 → Int32 → Int32 → qP Int32} (hR : ∀ (x0 : Nat) (x1 : Int32) (x2 : Int32) (x3 : Int32) (x4 : Int32) (x5 : Int32), qS l g mX12_plans (d + 3) n 0 0 0 0 cvI 12 [(0, .ref x0), (1, .int x1), (2, .int x2), (3, .int x3), (4, .int x4), (5, .int x5)] [] (R x0 x1 x2 x3 x4 x5)) (x0 : Nat) (x1 : Int32) (x2 : Int32) (x3 : Int32) (x4 : Int32) (x5 : Int32) (x6 : Int32) (x7 : Int32) : qS l g mX12_plans (d + 3) n 0 0 0 0 cvI 154 [(0, .ref x0), (1, .int x1), (2, .int x2), (3, .int x3), (4, .int x4), (5, .int x5), (6, .int x6), (7, .int x7)] [] (UX12_plans_154 R x0 x1 x2 x3 x4 x5 x6 x7) := by
  unfold UX12_plans_154
  refine s_iload dX12_plans_154 rfl ?_
  refine s_if_eq (tgt := 207) dX12_plans_156 (by decide) (fun c1 => ?_) (fun c1 => ?_)
  · refine s_iinc (lv' := [(5, .int (x5 + 1)), (0, .ref x0), (1, .int x1), (2, .int x2), (3, .int x3), (4, .int x4), (6, .int x6), (7, .int x7)]) dX12_plans_207 rfl (by decide) rfl ?_
    refine s_goto (tgt := 12) dX12_plans_210 (by decide) ?_
    refine s_locals [1, 2, 3, 4, 5, 0] rfl ?_
    exact hR x0 x1 x2 x3 x4 (x5 + 1)
  · refine s_iload dX12_plans_159 rfl ?_
    refine s_iload dX12_plans_161 rfl ?_
    refine s_icmp_le (tgt := 207) dX12_plans_163 (by decide) (fun c2 => ?_) (fun c2 => ?_)
    · refine s_iinc (lv' := [(5, .int (x5 + 1)), (0, .ref x0), (1, .int x1), (2, .int x2), (3, .int x3), (4, .int x4), (6, .int x6), (7, .int x7)]) dX12_plans_207 rfl (by decide) rfl ?_
      refine s_goto (tgt := 12) dX12_plans_210 (by decide) ?_
      refine s_locals [1, 2, 3, 4, 5, 0] rfl ?_
      exact hR x0 x1 x2 x3 x4 (x5 + 1)
    · refine s_aload_n dX12_plans_166 rfl ?_
      refine s_iload_n dX12_plans_167 rfl ?_
      refine s_virtI (as := [.int x2]) (rest := []) dX12_plans_168 vX12_112 (CX12_areSewn _ _) (Nat.le_of_ble_eq_true rfl) ⟨Nat.le_refl _, Nat.le_refl _⟩ fun v1 => ?_
      refine s_if_eq (tgt := 207) dX12_plans_171 (by decide) (fun c3 => ?_) (fun c3 => ?_)
      · refine s_iinc (lv' := [(5, .int (x5 + 1)), (0, .ref x0), (1, .int x1), (2, .int x2), (3, .int x3), (4, .int x4), (6, .int x6), (7, .int x7)]) dX12_plans_207 rfl (by decide) rfl ?_
        refine s_goto (tgt := 12) dX12_plans_210 (by decide) ?_
        refine s_locals [1, 2, 3, 4, 5, 0] rfl ?_
        exact hR x0 x1 x2 x3 x4 (x5 + 1)
      · refine s_iload dX12_plans_174 rfl ?_
        refine s_istore (lv' := [(4, .int x7), (0, .ref x0), (1, .int x1), (2, .int x2), (3, .int x3), (5, .int x5), (6, .int x6), (7, .int x7)]) dX12_plans_176 (by decide) rfl ?_
        refine s_iconst (v := 0) dX12_plans_178 (by decide) ?_
        refine s_istore (lv' := [(8, .int (0 : Int32)), (4, .int x7), (0, .ref x0), (1, .int x1), (2, .int x2), (3, .int x3), (5, .int x5), (6, .int x6), (7, .int x7)]) dX12_plans_179 (by decide) rfl ?_
        refine s_locals [2, 3, 4, 5, 1, 6, 0] rfl ?_
        exact WX12_plans_181_ok (UX12_plans_207_ok hR) 1000000 x0 x1 x2 x3 x7 x5 (0 : Int32)
def UX12_plans_83 (R : Nat → Int32 → Int32 → Int32 → Int32 → Int32 → qP Int32) (x0 : Nat) (x1 : Int32) (x2 : Int32) (x3 : Int32) (x4 : Int32) (x5 : Int32) (x6 : Int32) : qP Int32 :=
qb (qcl 12 x0) fun _ => qb (FX12_asNow x0) fun v1 =>
WX12_plans_93 (UX12_plans_154 R) 1000000 x0 x1 x2 x3 x4 x5 x6 (0 : Int32) (0 : Int32)
set_option maxRecDepth 100000 in
set_option maxHeartbeats 4000000 in
theorem UX12_plans_83_ok {l : Launch} {g : qG} {d n : Nat} {R : Nat → Int32 → Int32 → Int32 → Int32 → Int32 → qP Int32} (hR : ∀ (x0 : Nat) (x1 : Int32) (x2 : Int32) (x3 : Int32) (x4 : Int32) (x5 : Int32), qS l g mX12_plans (d + 3) n 0 0 0 0 cvI 12 [(0, .ref x0), (1, .int x1), (2, .int x2), (3, .int x3), (4, .int x4), (5, .int x5)] [] (R x0 x1 x2 x3 x4 x5)) (x0 : Nat) (x1 : Int32) (x2 : Int32) (x3 : Int32) (x4 : Int32) (x5 : Int32) (x6 : Int32) : qS l g mX12_plans (d + 3) n 0 0 0 0 cvI 83 [(0, .ref x0), (1, .int x1), (2, .int x2), (3, .int x3), (4, .int x4), (5, .int x5), (6, .int x6)] [] (UX12_plans_83 R x0 x1 x2 x3 x4 x5 x6) := by
  unfold UX12_plans_83
  refine s_iconst (v := 0) dX12_plans_83 (by decide) ?_
  refine s_istore (lv' := [(7, .int (0 : Int32)), (0, .ref x0), (1, .int x1), (2, .int x2), (3, .int x3), (4, .int x4), (5, .int x5), (6, .int x6)]) dX12_plans_84 (by decide) rfl ?_
  refine s_aload_n dX12_plans_86 rfl ?_
  refine s_virtV (as := []) (rest := []) dX12_plans_87 vX12_99 (CX12_asNow _) (Nat.le_of_ble_eq_true rfl) ⟨Nat.le_refl _, Nat.le_refl _⟩ fun v1 => ?_
  refine s_iconst (v := 0) dX12_plans_90 (by decide) ?_
  refine s_istore (lv' := [(8, .int (0 : Int32)), (7, .int (0 : Int32)), (0, .ref x0), (1, .int x1), (2, .int x2), (3, .int x3), (4, .int x4), (5, .int x5), (6, .int x6)]) dX12_plans_91 (by decide) rfl ?_
  refine s_locals [2, 3, 4, 5, 6, 7, 8, 1, 0] rfl ?_
  exact WX12_plans_93_ok (UX12_plans_154_ok hR) 1000000 x0 x1 x2 x3 x4 x5 x6 (0 : Int32) (0 : Int32)
def UX12_plans_12 (R : Nat → Int32 → Int32 → Int32 → Int32 → Int32 → qP Int32) (x0 : Nat) (x1 : Int32) (x2 : Int32) (x3 : Int32) (x4 : Int32) (x5 : Int32) : qP Int32 :=
if x3 ≤ x5 then (
qr x4) else (
WX12_plans_24 (UX12_plans_83 R) 1000000 x0 x1 x2 x3 x4 x5 (1 : Int32) (0 : Int32))
set_option maxRecDepth 100000 in
set_option maxHeartbeats 4000000 in
theorem UX12_plans_12_ok {l : Launch} {g : qG} {d n : Nat} {R : Nat → Int32 → Int32 → Int32 → Int32 → Int32 → qP Int32} (hR : ∀ (x0 : Nat) (x1 : Int32) (x2 : Int32) (x3 : Int32) (x4 : Int32) (x5 : Int32), qS l g mX12_plans (d + 3) n 0 0 0 0 cvI 12 [(0, .ref x0), (1, .int x1), (2, .int x2), (3, .int x3), (4, .int x4), (5, .int x5)] [] (R x0 x1 x2 x3 x4 x5)) (x0 : Nat) (x1 : Int32) (x2 : Int32) (x3 : Int32) (x4 : Int32) (x5 : Int32) : qS l g mX12_plans (d + 3) n 0 0 0 0 cvI 12 [(0, .ref x0), (1, .int x1), (2, .int x2), (3, .int x3), (4, .int x4), (5, .int x5)] [] (UX12_plans_12 R x0 x1 x2 x3 x4 x5) := by
  unfold UX12_plans_12
  refine s_iload dX12_plans_12 rfl ?_
  refine s_iload_n dX12_plans_14 rfl ?_
  refine s_icmp_ge (tgt := 213) dX12_plans_15 (by decide) (fun c1 => ?_) (fun c1 => ?_)
  · refine s_iload dX12_plans_213 rfl ?_
    exact s_ireturn dX12_plans_215 rfl rfl
  · refine s_iconst (v := 1) dX12_plans_18 (by decide) ?_
    refine s_istore (lv' := [(6, .int (1 : Int32)), (0, .ref x0), (1, .int x1), (2, .int x2), (3, .int x3), (4, .int x4), (5, .int x5)]) dX12_plans_19 (by decide) rfl ?_
    refine s_iconst (v := 0) dX12_plans_21 (by decide) ?_
    refine s_istore (lv' := [(7, .int (0 : Int32)), (6, .int (1 : Int32)), (0, .ref x0), (1, .int x1), (2, .int x2), (3, .int x3), (4, .int x4), (5, .int x5)]) dX12_plans_22 (by decide) rfl ?_
    refine s_locals [2, 3, 4, 5, 6, 7, 1, 0] rfl ?_
    exact WX12_plans_24_ok (UX12_plans_83_ok hR) 1000000 x0 x1 x2 x3 x4 x5 (1 : Int32) (0 : Int32)
def WX12_plans_12 : Nat → Nat → Int32 → Int32 → Int32 → Int32 → Int32 → qP Int32
  | 0 => fun _ _ _ _ _ _ => qfail
  | N + 1 => fun x0 x1 x2 x3 x4 x5 => UX12_plans_12 (WX12_plans_12  N)  x0 x1 x2 x3 x4 x5
theorem WX12_plans_12_ok {l : Launch} {g : qG} {d n : Nat} : ∀ (N : Nat) (x0 : Nat) (x1 : Int32) (x2 : Int32) (x3 : Int32) (x4 : Int32) (x5 : Int32), qS l g mX12_plans (d + 3) n 0 0 0 0 cvI 12 [(0, .ref x0), (1, .int x1), (2, .int x2), (3, .int x3), (4, .int x4), (5, .int x5)] [] (WX12_plans_12  N x0 x1 x2 x3 x4 x5) := by
  intro N
  induction N with
  | zero => intro x0 x1 x2 x3 x4 x5; exact s_fail
  | succ N ih => intro x0 x1 x2 x3 x4 x5; exact UX12_plans_12_ok ih  x0 x1 x2 x3 x4 x5
def FX12_plans (x0 : Nat) (x1 : Int32) (x2 : Int32) : qP Int32 :=
WX12_plans_12 1000000 x0 x1 x2 ((1 : Int32) <<< (((3 : Int32) * x1) &&& 31)) (-1 : Int32) (0 : Int32)
set_option maxRecDepth 100000 in
set_option maxHeartbeats 4000000 in
theorem FX12_plans_ok {l : Launch} {g : qG} {d n : Nat} (x0 : Nat) (x1 : Int32) (x2 : Int32) : qS l g mX12_plans (d + 3) n 0 0 0 0 cvI 0 [(0, .ref x0), (1, .int x1), (2, .int x2)] [] (FX12_plans x0 x1 x2) := by
  unfold FX12_plans
  refine s_iconst (v := 1) dX12_plans_0 (by decide) ?_
  refine s_iconst (v := 3) dX12_plans_1 (by decide) ?_
  refine s_iload_n dX12_plans_2 rfl ?_
  refine s_imul dX12_plans_3 ?_
  refine s_ishl dX12_plans_4 ?_
  refine s_istore_n (lv' := [(3, .int ((1 : Int32) <<< (((3 : Int32) * x1) &&& 31))), (0, .ref x0), (1, .int x1), (2, .int x2)]) dX12_plans_5 (by decide) rfl ?_
  refine s_iconst (v := -1) dX12_plans_6 (by decide) ?_
  refine s_istore (lv' := [(4, .int (-1 : Int32)), (3, .int ((1 : Int32) <<< (((3 : Int32) * x1) &&& 31))), (0, .ref x0), (1, .int x1), (2, .int x2)]) dX12_plans_7 (by decide) rfl ?_
  refine s_iconst (v := 0) dX12_plans_9 (by decide) ?_
  refine s_istore (lv' := [(5, .int (0 : Int32)), (4, .int (-1 : Int32)), (3, .int ((1 : Int32) <<< (((3 : Int32) * x1) &&& 31))), (0, .ref x0), (1, .int x1), (2, .int x2)]) dX12_plans_10 (by decide) rfl ?_
  refine s_locals [3, 4, 5, 2, 1, 0] rfl ?_
  exact WX12_plans_12_ok  1000000 x0 x1 x2 ((1 : Int32) <<< (((3 : Int32) * x1) &&& 31)) (-1 : Int32) (0 : Int32)
theorem CX12_plans {l : Launch} {g : qG} {d : Nat} (x0 : Nat) (x1 : Int32) (x2 : Int32) : qCt l g mX12_plans (d + 3) 0 0 cvI [.ref x0, .int x1, .int x2] (FX12_plans x0 x1 x2) := s_of pn_X12 (Nat.le_of_ble_eq_true rfl) fun n => FX12_plans_ok x0 x1 x2
def UX12_plan_17 (x0 : Nat) : qP Int32 :=
qb (qcl 12 x0) fun _ => qb (FX12_refuses x0 (0 : Int32) (-10 : Int32)) fun v1 =>
qr v1
set_option maxRecDepth 100000 in
set_option maxHeartbeats 4000000 in
theorem UX12_plan_17_ok {l : Launch} {g : qG} {d n : Nat} (x0 : Nat) : qS l g mX12_plan (d + 4) n 0 0 0 0 cvI 17 [(0, .ref x0)] [] (UX12_plan_17 x0) := by
  unfold UX12_plan_17
  refine s_aload_n dX12_plan_17 rfl ?_
  refine s_iconst (v := 0) dX12_plan_18 (by decide) ?_
  refine s_bipush (v := -10) dX12_plan_19 (by decide) ?_
  refine s_virtI (as := [.int (0 : Int32), .int (-10 : Int32)]) (rest := []) dX12_plan_21 vX12_55 (CX12_refuses _ _ _) (Nat.le_of_ble_eq_true rfl) ⟨Nat.le_refl _, Nat.le_refl _⟩ fun v1 => ?_
  exact s_ireturn dX12_plan_24 rfl rfl
def FX12_plan (x0 : Nat) (x1 : Int32) (x2 : Int32) : qP Int32 :=
qb (FX12_in (x1).toInt64 (0 : Int64) (5 : Int64)) fun v1 =>
if v1 = 0 then (
UX12_plan_17 x0) else (
if (-1 : Int32) ≤ x2 then (
qb (qcl 12 x0) fun _ => qb (FX12_plans x0 x1 (0 : Int32)) fun v2 =>
if x2 = (-1 : Int32) then (
qr v2) else (
if x1 ≤ x2 then (
qr (-5 : Int32)) else (
qb (gR 12 x0 10) fun v3 =>
qb (aI v3 x2) fun v4 =>
qr v4))) else (
UX12_plan_17 x0))
set_option maxRecDepth 100000 in
set_option maxHeartbeats 4000000 in
theorem FX12_plan_ok {l : Launch} {g : qG} {d n : Nat} (x0 : Nat) (x1 : Int32) (x2 : Int32) : qS l g mX12_plan (d + 4) n 0 0 0 0 cvI 0 [(0, .ref x0), (1, .int x1), (2, .int x2)] [] (FX12_plan x0 x1 x2) := by
  unfold FX12_plan
  refine s_iload_n dX12_plan_0 rfl ?_
  refine s_i2l dX12_plan_1 ?_
  refine s_lconst (v := 0) dX12_plan_2 (by decide) ?_
  refine s_ldc2 dX12_plan_3 lX12_70 ?_
  refine s_staticI (as := [.long (x1).toInt64, .long (0 : Int64), .long (5 : Int64)]) (rest := []) dX12_plan_6 sX12_59 (CX12_in _ _ _) (Nat.le_of_ble_eq_true rfl) ⟨Nat.le_refl _, Nat.le_refl _⟩ fun v1 => ?_
  refine s_if_eq (tgt := 17) dX12_plan_9 (by decide) (fun c1 => ?_) (fun c1 => ?_)
  · refine s_locals [0] rfl ?_
    exact UX12_plan_17_ok x0
  · refine s_iload_n dX12_plan_12 rfl ?_
    refine s_iconst (v := -1) dX12_plan_13 (by decide) ?_
    refine s_icmp_ge (tgt := 25) dX12_plan_14 (by decide) (fun c2 => ?_) (fun c2 => ?_)
    · refine s_aload_n dX12_plan_25 rfl ?_
      refine s_iload_n dX12_plan_26 rfl ?_
      refine s_iconst (v := 0) dX12_plan_27 (by decide) ?_
      refine s_virtI (as := [.int x1, .int (0 : Int32)]) (rest := []) dX12_plan_28 vX12_115 (CX12_plans _ _ _) (Nat.le_of_ble_eq_true rfl) ⟨Nat.le_refl _, Nat.le_refl _⟩ fun v2 => ?_
      refine s_istore_n (lv' := [(3, .int v2), (0, .ref x0), (1, .int x1), (2, .int x2)]) dX12_plan_31 (by decide) rfl ?_
      refine s_iload_n dX12_plan_32 rfl ?_
      refine s_iconst (v := -1) dX12_plan_33 (by decide) ?_
      refine s_icmp_ne (tgt := 41) dX12_plan_34 (by decide) (fun c3 => ?_) (fun c3 => ?_)
      · refine s_iload_n dX12_plan_37 rfl ?_
        refine s_goto (tgt := 57) dX12_plan_38 (by decide) ?_
        exact s_ireturn dX12_plan_57 rfl rfl
      · refine s_iload_n dX12_plan_41 rfl ?_
        refine s_iload_n dX12_plan_42 rfl ?_
        refine s_icmp_ge (tgt := 55) dX12_plan_43 (by decide) (fun c4 => ?_) (fun c4 => ?_)
        · refine s_bipush (v := -5) dX12_plan_55 (by decide) ?_
          exact s_ireturn dX12_plan_57 rfl rfl
        · refine s_aload_n dX12_plan_46 rfl ?_
          refine s_gR dX12_plan_47 fX12_32 fun v3 => ?_
          refine s_iload_n dX12_plan_50 rfl ?_
          refine s_aI dX12_plan_51 fun v4 => ?_
          refine s_goto (tgt := 57) dX12_plan_52 (by decide) ?_
          exact s_ireturn dX12_plan_57 rfl rfl
    · refine s_locals [0] rfl ?_
      exact UX12_plan_17_ok x0
theorem CX12_plan {l : Launch} {g : qG} {d : Nat} (x0 : Nat) (x1 : Int32) (x2 : Int32) : qCt l g mX12_plan (d + 4) 0 0 cvI [.ref x0, .int x1, .int x2] (FX12_plan x0 x1 x2) := s_of pn_X12 (Nat.le_of_ble_eq_true rfl) fun n => FX12_plan_ok x0 x1 x2
def UX12_inTime_25 (x0 : Nat) : qP Int32 :=
qb (qcl 12 x0) fun _ => qb (FX12_refuses x0 (0 : Int32) (-10 : Int32)) fun v1 =>
qr v1
set_option maxRecDepth 100000 in
set_option maxHeartbeats 4000000 in
theorem UX12_inTime_25_ok {l : Launch} {g : qG} {d n : Nat} (x0 : Nat) : qS l g mX12_inTime (d + 4) n 0 0 0 0 cvI 25 [(0, .ref x0)] [] (UX12_inTime_25 x0) := by
  unfold UX12_inTime_25
  refine s_aload_n dX12_inTime_25 rfl ?_
  refine s_iconst (v := 0) dX12_inTime_26 (by decide) ?_
  refine s_bipush (v := -10) dX12_inTime_27 (by decide) ?_
  refine s_virtI (as := [.int (0 : Int32), .int (-10 : Int32)]) (rest := []) dX12_inTime_29 vX12_55 (CX12_refuses _ _ _) (Nat.le_of_ble_eq_true rfl) ⟨Nat.le_refl _, Nat.le_refl _⟩ fun v1 => ?_
  exact s_ireturn dX12_inTime_32 rfl rfl
def FX12_inTime (x0 : Nat) (x1 : Int32) (x2 : Int32) (x3 : Int32) : qP Int32 :=
qb (FX12_in (x1).toInt64 (0 : Int64) (5 : Int64)) fun v1 =>
if v1 = 0 then (
UX12_inTime_25 x0) else (
qb (qcl 12 x0) fun _ => qb (FX12_areShirts x0 x2) fun v2 =>
if v2 = 0 then (
UX12_inTime_25 x0) else (
if (-1 : Int32) ≤ x3 then (
qb (qcl 12 x0) fun _ => qb (FX12_plans x0 x1 x2) fun v3 =>
if v3 = (-1 : Int32) then (
qr v3) else (
if x3 = (-1 : Int32) then (
qr v3) else (
if x1 ≤ x3 then (
qr (-5 : Int32)) else (
qb (gR 12 x0 10) fun v4 =>
qb (aI v4 x3) fun v5 =>
qr v5)))) else (
UX12_inTime_25 x0)))
set_option maxRecDepth 100000 in
set_option maxHeartbeats 4000000 in
theorem FX12_inTime_ok {l : Launch} {g : qG} {d n : Nat} (x0 : Nat) (x1 : Int32) (x2 : Int32) (x3 : Int32) : qS l g mX12_inTime (d + 4) n 0 0 0 0 cvI 0 [(0, .ref x0), (1, .int x1), (2, .int x2), (3, .int x3)] [] (FX12_inTime x0 x1 x2 x3) := by
  unfold FX12_inTime
  refine s_iload_n dX12_inTime_0 rfl ?_
  refine s_i2l dX12_inTime_1 ?_
  refine s_lconst (v := 0) dX12_inTime_2 (by decide) ?_
  refine s_ldc2 dX12_inTime_3 lX12_70 ?_
  refine s_staticI (as := [.long (x1).toInt64, .long (0 : Int64), .long (5 : Int64)]) (rest := []) dX12_inTime_6 sX12_59 (CX12_in _ _ _) (Nat.le_of_ble_eq_true rfl) ⟨Nat.le_refl _, Nat.le_refl _⟩ fun v1 => ?_
  refine s_if_eq (tgt := 25) dX12_inTime_9 (by decide) (fun c1 => ?_) (fun c1 => ?_)
  · refine s_locals [0] rfl ?_
    exact UX12_inTime_25_ok x0
  · refine s_aload_n dX12_inTime_12 rfl ?_
    refine s_iload_n dX12_inTime_13 rfl ?_
    refine s_virtI (as := [.int x2]) (rest := []) dX12_inTime_14 vX12_118 (CX12_areShirts _ _) (Nat.le_of_ble_eq_true rfl) ⟨Nat.le_refl _, Nat.le_refl _⟩ fun v2 => ?_
    refine s_if_eq (tgt := 25) dX12_inTime_17 (by decide) (fun c2 => ?_) (fun c2 => ?_)
    · refine s_locals [0] rfl ?_
      exact UX12_inTime_25_ok x0
    · refine s_iload_n dX12_inTime_20 rfl ?_
      refine s_iconst (v := -1) dX12_inTime_21 (by decide) ?_
      refine s_icmp_ge (tgt := 33) dX12_inTime_22 (by decide) (fun c3 => ?_) (fun c3 => ?_)
      · refine s_aload_n dX12_inTime_33 rfl ?_
        refine s_iload_n dX12_inTime_34 rfl ?_
        refine s_iload_n dX12_inTime_35 rfl ?_
        refine s_virtI (as := [.int x1, .int x2]) (rest := []) dX12_inTime_36 vX12_115 (CX12_plans _ _ _) (Nat.le_of_ble_eq_true rfl) ⟨Nat.le_refl _, Nat.le_refl _⟩ fun v3 => ?_
        refine s_istore (lv' := [(4, .int v3), (0, .ref x0), (1, .int x1), (2, .int x2), (3, .int x3)]) dX12_inTime_39 (by decide) rfl ?_
        refine s_iload dX12_inTime_41 rfl ?_
        refine s_iconst (v := -1) dX12_inTime_43 (by decide) ?_
        refine s_icmp_eq (tgt := 52) dX12_inTime_44 (by decide) (fun c4 => ?_) (fun c4 => ?_)
        · refine s_iload dX12_inTime_52 rfl ?_
          refine s_goto (tgt := 73) dX12_inTime_54 (by decide) ?_
          exact s_ireturn dX12_inTime_73 rfl rfl
        · refine s_iload_n dX12_inTime_47 rfl ?_
          refine s_iconst (v := -1) dX12_inTime_48 (by decide) ?_
          refine s_icmp_ne (tgt := 57) dX12_inTime_49 (by decide) (fun c5 => ?_) (fun c5 => ?_)
          · refine s_iload dX12_inTime_52 rfl ?_
            refine s_goto (tgt := 73) dX12_inTime_54 (by decide) ?_
            exact s_ireturn dX12_inTime_73 rfl rfl
          · refine s_iload_n dX12_inTime_57 rfl ?_
            refine s_iload_n dX12_inTime_58 rfl ?_
            refine s_icmp_ge (tgt := 71) dX12_inTime_59 (by decide) (fun c6 => ?_) (fun c6 => ?_)
            · refine s_bipush (v := -5) dX12_inTime_71 (by decide) ?_
              exact s_ireturn dX12_inTime_73 rfl rfl
            · refine s_aload_n dX12_inTime_62 rfl ?_
              refine s_gR dX12_inTime_63 fX12_32 fun v4 => ?_
              refine s_iload_n dX12_inTime_66 rfl ?_
              refine s_aI dX12_inTime_67 fun v5 => ?_
              refine s_goto (tgt := 73) dX12_inTime_68 (by decide) ?_
              exact s_ireturn dX12_inTime_73 rfl rfl
      · refine s_locals [0] rfl ?_
        exact UX12_inTime_25_ok x0
theorem CX12_inTime {l : Launch} {g : qG} {d : Nat} (x0 : Nat) (x1 : Int32) (x2 : Int32) (x3 : Int32) : qCt l g mX12_inTime (d + 4) 0 0 cvI [.ref x0, .int x1, .int x2, .int x3] (FX12_inTime x0 x1 x2 x3) := s_of pn_X12 (Nat.le_of_ble_eq_true rfl) fun n => FX12_inTime_ok x0 x1 x2 x3
def UX12_fewest_15 (R : Nat → Int32 → Int32 → qP Int32) (x0 : Nat) (x1 : Int32) (x2 : Int32) : qP Int32 :=
if (6 : Int32) ≤ x2 then (
qr (-1 : Int32)) else (
qb (qcl 12 x0) fun _ => qb (FX12_plans x0 x2 x1) fun v1 =>
if v1 = (-1 : Int32) then (
R x0 x1 (x2 + 1)) else (
qr x2))
set_option maxRecDepth 100000 in
set_option maxHeartbeats 4000000 in
theorem UX12_fewest_15_ok {l : Launch} {g : qG} {d n : Nat} {R : Nat → Int32 → Int32 → qP Int32} (hR : ∀ (x0 : Nat) (x1 : Int32) (x2 : Int32), qS l g mX12_fewest (d + 4) n 0 0 0 0 cvI 15 [(0, .ref x0), (1, .int x1), (2, .int x2)] [] (R x0 x1 x2)) (x0 : Nat) (x1 : Int32) (x2 : Int32) : qS l g mX12_fewest (d + 4) n 0 0 0 0 cvI 15 [(0, .ref x0), (1, .int x1), (2, .int x2)] [] (UX12_fewest_15 R x0 x1 x2) := by
  unfold UX12_fewest_15
  refine s_iload_n dX12_fewest_15 rfl ?_
  refine s_bipush (v := 6) dX12_fewest_16 (by decide) ?_
  refine s_icmp_ge (tgt := 39) dX12_fewest_18 (by decide) (fun c1 => ?_) (fun c1 => ?_)
  · refine s_iconst (v := -1) dX12_fewest_39 (by decide) ?_
    exact s_ireturn dX12_fewest_40 rfl rfl
  · refine s_aload_n dX12_fewest_21 rfl ?_
    refine s_iload_n dX12_fewest_22 rfl ?_
    refine s_iload_n dX12_fewest_23 rfl ?_
    refine s_virtI (as := [.int x2, .int x1]) (rest := []) dX12_fewest_24 vX12_115 (CX12_plans _ _ _) (Nat.le_of_ble_eq_true rfl) ⟨Nat.le_refl _, Nat.le_refl _⟩ fun v1 => ?_
    refine s_iconst (v := -1) dX12_fewest_27 (by decide) ?_
    refine s_icmp_eq (tgt := 33) dX12_fewest_28 (by decide) (fun c2 => ?_) (fun c2 => ?_)
    · refine s_iinc (lv' := [(2, .int (x2 + 1)), (0, .ref x0), (1, .int x1)]) dX12_fewest_33 rfl (by decide) rfl ?_
      refine s_goto (tgt := 15) dX12_fewest_36 (by decide) ?_
      refine s_locals [1, 2, 0] rfl ?_
      exact hR x0 x1 (x2 + 1)
    · refine s_iload_n dX12_fewest_31 rfl ?_
      exact s_ireturn dX12_fewest_32 rfl rfl
def WX12_fewest_15 : Nat → Nat → Int32 → Int32 → qP Int32
  | 0 => fun _ _ _ => qfail
  | N + 1 => fun x0 x1 x2 => UX12_fewest_15 (WX12_fewest_15  N)  x0 x1 x2
theorem WX12_fewest_15_ok {l : Launch} {g : qG} {d n : Nat} : ∀ (N : Nat) (x0 : Nat) (x1 : Int32) (x2 : Int32), qS l g mX12_fewest (d + 4) n 0 0 0 0 cvI 15 [(0, .ref x0), (1, .int x1), (2, .int x2)] [] (WX12_fewest_15  N x0 x1 x2) := by
  intro N
  induction N with
  | zero => intro x0 x1 x2; exact s_fail
  | succ N ih => intro x0 x1 x2; exact UX12_fewest_15_ok ih  x0 x1 x2
def FX12_fewest (x0 : Nat) (x1 : Int32) : qP Int32 :=
qb (qcl 12 x0) fun _ => qb (FX12_areShirts x0 x1) fun v1 =>
if v1 = 0 then (
qb (qcl 12 x0) fun _ => qb (FX12_bad x0) fun v2 =>
qr v2) else (
WX12_fewest_15 1000000 x0 x1 (0 : Int32))
set_option maxRecDepth 100000 in
set_option maxHeartbeats 4000000 in
theorem FX12_fewest_ok {l : Launch} {g : qG} {d n : Nat} (x0 : Nat) (x1 : Int32) : qS l g mX12_fewest (d + 4) n 0 0 0 0 cvI 0 [(0, .ref x0), (1, .int x1)] [] (FX12_fewest x0 x1) := by
  unfold FX12_fewest
  refine s_aload_n dX12_fewest_0 rfl ?_
  refine s_iload_n dX12_fewest_1 rfl ?_
  refine s_virtI (as := [.int x1]) (rest := []) dX12_fewest_2 vX12_118 (CX12_areShirts _ _) (Nat.le_of_ble_eq_true rfl) ⟨Nat.le_refl _, Nat.le_refl _⟩ fun v1 => ?_
  refine s_if_ne (tgt := 13) dX12_fewest_5 (by decide) (fun c1 => ?_) (fun c1 => ?_)
  · refine s_aload_n dX12_fewest_8 rfl ?_
    refine s_virtI (as := []) (rest := []) dX12_fewest_9 vX12_74 (CX12_bad _) (Nat.le_of_ble_eq_true rfl) ⟨Nat.le_refl _, Nat.le_refl _⟩ fun v2 => ?_
    exact s_ireturn dX12_fewest_12 rfl rfl
  · refine s_iconst (v := 0) dX12_fewest_13 (by decide) ?_
    refine s_istore_n (lv' := [(2, .int (0 : Int32)), (0, .ref x0), (1, .int x1)]) dX12_fewest_14 (by decide) rfl ?_
    refine s_locals [1, 2, 0] rfl ?_
    exact WX12_fewest_15_ok  1000000 x0 x1 (0 : Int32)
theorem CX12_fewest {l : Launch} {g : qG} {d : Nat} (x0 : Nat) (x1 : Int32) : qCt l g mX12_fewest (d + 4) 0 0 cvI [.ref x0, .int x1] (FX12_fewest x0 x1) := s_of pn_X12 (Nat.le_of_ble_eq_true rfl) fun n => FX12_fewest_ok x0 x1
def UX12_left_22 (x0 : Nat) : qP Int32 :=
qb (qcl 12 x0) fun _ => qb (FX12_refuses x0 (0 : Int32) (-10 : Int32)) fun v1 =>
qr v1
set_option maxRecDepth 100000 in
set_option maxHeartbeats 4000000 in
theorem UX12_left_22_ok {l : Launch} {g : qG} {d n : Nat} (x0 : Nat) : qS l g mX12_left (d + 4) n 0 0 0 0 cvI 22 [(0, .ref x0)] [] (UX12_left_22 x0) := by
  unfold UX12_left_22
  refine s_aload_n dX12_left_22 rfl ?_
  refine s_iconst (v := 0) dX12_left_23 (by decide) ?_
  refine s_bipush (v := -10) dX12_left_24 (by decide) ?_
  refine s_virtI (as := [.int (0 : Int32), .int (-10 : Int32)]) (rest := []) dX12_left_26 vX12_55 (CX12_refuses _ _ _) (Nat.le_of_ble_eq_true rfl) ⟨Nat.le_refl _, Nat.le_refl _⟩ fun v1 => ?_
  exact s_ireturn dX12_left_29 rfl rfl
def UX12_left_43 (R : Nat → Int32 → Int32 → Int32 → qP Int32) (K65 : Nat → Int32 → qP Int32) (x0 : Nat) (x1 : Int32) (x2 : Int32) (x3 : Int32) : qP Int32 :=
if x1 ≤ x3 then (
K65 x0 x2) else (
qb (gR 12 x0 10) fun v1 =>
qb (aI v1 x3) fun v2 =>
qb (qcl 12 x0) fun _ => qb (FX12_goes x0 v2) fun v3 =>
R x0 x1 x2 (x3 + 1))
set_option maxRecDepth 100000 in
set_option maxHeartbeats 4000000 in
theorem UX12_left_43_ok {l : Launch} {g : qG} {d n : Nat} {R : Nat → Int32 → Int32 → Int32 → qP Int32} (hR : ∀ (x0 : Nat) (x1 : Int32) (x2 : Int32) (x3 : Int32), qS l g mX12_left (d + 4) n 0 0 0 0 cvI 43 [(0, .ref x0), (1, .int x1), (2, .int x2), (3, .int x3)] [] (R x0 x1 x2 x3)) {K65 : Nat → Int32 → qP Int32} (hK65 : ∀ (x0 : Nat) (x2 : Int32), qS l g mX12_left (d + 4) n 0 0 0 0 cvI 65 [(0, .ref x0), (2, .int x2)] [] (K65 x0 x2)) (x0 : Nat) (x1 : Int32) (x2 : Int32) (x3 : Int32) : qS l g mX12_left (d + 4) n 0 0 0 0 cvI 43 [(0, .ref x0), (1, .int x1), (2, .int x2), (3, .int x3)] [] (UX12_left_43 R K65 x0 x1 x2 x3) := by
  unfold UX12_left_43
  refine s_iload_n dX12_left_43 rfl ?_
  refine s_iload_n dX12_left_44 rfl ?_
  refine s_icmp_ge (tgt := 65) dX12_left_45 (by decide) (fun c1 => ?_) (fun c1 => ?_)
  · refine s_locals [0, 2] rfl ?_
    exact hK65 x0 x2
  · refine s_aload_n dX12_left_48 rfl ?_
    refine s_aload_n dX12_left_49 rfl ?_
    refine s_gR dX12_left_50 fX12_32 fun v1 => ?_
    refine s_iload_n dX12_left_53 rfl ?_
    refine s_aI dX12_left_54 fun v2 => ?_
    refine s_virtI (as := [.int v2]) (rest := []) dX12_left_55 vX12_102 (CX12_goes _ _) (Nat.le_of_ble_eq_true rfl) ⟨Nat.le_refl _, Nat.le_refl _⟩ fun v3 => ?_
    refine s_pop dX12_left_58 rfl ?_
    refine s_iinc (lv' := [(3, .int (x3 + 1)), (0, .ref x0), (1, .int x1), (2, .int x2)]) dX12_left_59 rfl (by decide) rfl ?_
    refine s_goto (tgt := 43) dX12_left_62 (by decide) ?_
    refine s_locals [1, 2, 3, 0] rfl ?_
    exact hR x0 x1 x2 (x3 + 1)
def WX12_left_43 (K65 : Nat → Int32 → qP Int32) : Nat → Nat → Int32 → Int32 → Int32 → qP Int32
  | 0 => fun _ _ _ _ => qfail
  | N + 1 => fun x0 x1 x2 x3 => UX12_left_43 (WX12_left_43 K65 N) K65 x0 x1 x2 x3
theorem WX12_left_43_ok {l : Launch} {g : qG} {d n : Nat} {K65 : Nat → Int32 → qP Int32} (hK65 : ∀ (x0 : Nat) (x2 : Int32), qS l g mX12_left (d + 4) n 0 0 0 0 cvI 65 [(0, .ref x0), (2, .int x2)] [] (K65 x0 x2)) : ∀ (N : Nat) (x0 : Nat) (x1 : Int32) (x2 : Int32) (x3 : Int32), qS l g mX12_left (d + 4) n 0 0 0 0 cvI 43 [(0, .ref x0), (1, .int x1), (2, .int x2), (3, .int x3)] [] (WX12_left_43 K65 N x0 x1 x2 x3) := by
  intro N
  induction N with
  | zero => intro x0 x1 x2 x3; exact s_fail
  | succ N ih => intro x0 x1 x2 x3; exact UX12_left_43_ok ih hK65 x0 x1 x2 x3
def UX12_left_129 (R : Nat → Int32 → Int32 → Int32 → Int32 → Int32 → qP Int32) (K153 : Int32 → Int32 → Int32 → qP Int32) (x0 : Nat) (x2 : Int32) (x3 : Int32) (x5 : Int32) (x6 : Int32) (x7 : Int32) (s0 : Int32) : qP Int32 :=
if x7 ≤ x5 then (
R x0 x2 x3 s0 x5 (x6 + 1)) else (
R x0 x2 x3 s0 x7 (x6 + 1))
set_option maxRecDepth 100000 in
set_option maxHeartbeats 4000000 in
theorem UX12_left_129_ok {l : Launch} {g : qG} {d n : Nat} {R : Nat → Int32 → Int32 → Int32 → Int32 → Int32 → qP Int32} (hR : ∀ (x0 : Nat) (x2 : Int32) (x3 : Int32) (x4 : Int32) (x5 : Int32) (x6 : Int32), qS l g mX12_left (d + 4) n 0 0 0 0 cvI 76 [(0, .ref x0), (2, .int x2), (3, .int x3), (4, .int x4), (5, .int x5), (6, .int x6)] [] (R x0 x2 x3 x4 x5 x6)) {K153 : Int32 → Int32 → Int32 → qP Int32} (hK153 : ∀ (x2 : Int32) (x3 : Int32) (x4 : Int32), qS l g mX12_left (d + 4) n 0 0 0 0 cvI 153 [(2, .int x2), (3, .int x3), (4, .int x4)] [] (K153 x2 x3 x4)) (x0 : Nat) (x2 : Int32) (x3 : Int32) (x5 : Int32) (x6 : Int32) (x7 : Int32) (s0 : Int32) : qS l g mX12_left (d + 4) n 0 0 0 0 cvI 129 [(0, .ref x0), (2, .int x2), (3, .int x3), (5, .int x5), (6, .int x6), (7, .int x7)] [.int s0] (UX12_left_129 R K153 x0 x2 x3 x5 x6 x7 s0) := by
  unfold UX12_left_129
  refine s_istore (lv' := [(4, .int s0), (0, .ref x0), (2, .int x2), (3, .int x3), (5, .int x5), (6, .int x6), (7, .int x7)]) dX12_left_129 (by decide) rfl ?_
  refine s_iload dX12_left_131 rfl ?_
  refine s_iload dX12_left_133 rfl ?_
  refine s_icmp_le (tgt := 143) dX12_left_135 (by decide) (fun c1 => ?_) (fun c1 => ?_)
  · refine s_iload dX12_left_143 rfl ?_
    refine s_istore (lv' := [(5, .int x5), (4, .int s0), (0, .ref x0), (2, .int x2), (3, .int x3), (6, .int x6), (7, .int x7)]) dX12_left_145 (by decide) rfl ?_
    refine s_iinc (lv' := [(6, .int (x6 + 1)), (5, .int x5), (4, .int s0), (0, .ref x0), (2, .int x2), (3, .int x3), (7, .int x7)]) dX12_left_147 rfl (by decide) rfl ?_
    refine s_goto (tgt := 76) dX12_left_150 (by decide) ?_
    refine s_locals [3, 4, 5, 2, 1, 0] rfl ?_
    exact hR x0 x2 x3 s0 x5 (x6 + 1)
  · refine s_iload dX12_left_138 rfl ?_
    refine s_goto (tgt := 145) dX12_left_140 (by decide) ?_
    refine s_istore (lv' := [(5, .int x7), (4, .int s0), (0, .ref x0), (2, .int x2), (3, .int x3), (6, .int x6), (7, .int x7)]) dX12_left_145 (by decide) rfl ?_
    refine s_iinc (lv' := [(6, .int (x6 + 1)), (5, .int x7), (4, .int s0), (0, .ref x0), (2, .int x2), (3, .int x3), (7, .int x7)]) dX12_left_147 rfl (by decide) rfl ?_
    refine s_goto (tgt := 76) dX12_left_150 (by decide) ?_
    refine s_locals [3, 4, 5, 2, 1, 0] rfl ?_
    exact hR x0 x2 x3 s0 x7 (x6 + 1)
def UX12_left_76 (R : Nat → Int32 → Int32 → Int32 → Int32 → Int32 → qP Int32) (K153 : Int32 → Int32 → Int32 → qP Int32) (x0 : Nat) (x2 : Int32) (x3 : Int32) (x4 : Int32) (x5 : Int32) (x6 : Int32) : qP Int32 :=
qb (gR 12 x0 0) fun v1 =>
qb (aI v1 (1 : Int32)) fun v2 =>
if v2 ≤ x6 then (
K153 x2 x3 x4) else (
qb (gR 12 x0 0) fun v3 =>
qb (aI v3 ((25 : Int32) + x6)) fun v4 =>
qb (gR 12 x0 8) fun v5 =>
qb (aI v5 ((6 : Int32) + x6)) fun v6 =>
if (v4 - v6) ≤ x5 then (
UX12_left_129 R K153 x0 x2 (x3 + (v4 - v6)) x5 x6 (v4 - v6) x4) else (
UX12_left_129 R K153 x0 x2 (x3 + (v4 - v6)) x5 x6 (v4 - v6) x6))
set_option maxRecDepth 100000 in
set_option maxHeartbeats 4000000 in
theorem UX12_left_76_ok {l : Launch} {g : qG} {d n : Nat} {R : Nat → Int32 → Int32 → Int32 → Int32 → Int32 → qP Int32} (hR : ∀ (x0 : Nat) (x2 : Int32) (x3 : Int32) (x4 : Int32) (x5 : Int32) (x6 : Int32), qS l g mX12_left (d + 4) n 0 0 0 0 cvI 76 [(0, .ref x0), (2, .int x2), (3, .int x3), (4, .int x4), (5, .int x5), (6, .int x6)] [] (R x0 x2 x3 x4 x5 x6)) {K153 : Int32 → Int32 → Int32 → qP Int32} (hK153 : ∀ (x2 : Int32) (x3 : Int32) (x4 : Int32), qS l g mX12_left (d + 4) n 0 0 0 0 cvI 153 [(2, .int x2), (3, .int x3), (4, .int x4)] [] (K153 x2 x3 x4)) (x0 : Nat) (x2 : Int32) (x3 : Int32) (x4 : Int32) (x5 : Int32) (x6 : Int32) : qS l g mX12_left (d + 4) n 0 0 0 0 cvI 76 [(0, .ref x0), (2, .int x2), (3, .int x3), (4, .int x4), (5, .int x5), (6, .int x6)] [] (UX12_left_76 R K153 x0 x2 x3 x4 x5 x6) := by
  unfold UX12_left_76
  refine s_iload dX12_left_76 rfl ?_
  refine s_aload_n dX12_left_78 rfl ?_
  refine s_gR dX12_left_79 fX12_7 fun v1 => ?_
  refine s_iconst (v := 1) dX12_left_82 (by decide) ?_
  refine s_aI dX12_left_83 fun v2 => ?_
  refine s_icmp_ge (tgt := 153) dX12_left_84 (by decide) (fun c1 => ?_) (fun c1 => ?_)
  · refine s_locals [1, 2, 3] rfl ?_
    exact hK153 x2 x3 x4
  · refine s_aload_n dX12_left_87 rfl ?_
    refine s_gR dX12_left_88 fX12_7 fun v3 => ?_
    refine s_bipush (v := 25) dX12_left_91 (by decide) ?_
    refine s_iload dX12_left_93 rfl ?_
    refine s_iadd dX12_left_95 ?_
    refine s_aI dX12_left_96 fun v4 => ?_
    refine s_aload_n dX12_left_97 rfl ?_
    refine s_gR dX12_left_98 fX12_26 fun v5 => ?_
    refine s_bipush (v := 6) dX12_left_101 (by decide) ?_
    refine s_iload dX12_left_103 rfl ?_
    refine s_iadd dX12_left_105 ?_
    refine s_aI dX12_left_106 fun v6 => ?_
    refine s_isub dX12_left_107 ?_
    refine s_istore (lv' := [(7, .int (v4 - v6)), (0, .ref x0), (2, .int x2), (3, .int x3), (4, .int x4), (5, .int x5), (6, .int x6)]) dX12_left_108 (by decide) rfl ?_
    refine s_iload_n dX12_left_110 rfl ?_
    refine s_iload dX12_left_111 rfl ?_
    refine s_iadd dX12_left_113 ?_
    refine s_istore_n (lv' := [(3, .int (x3 + (v4 - v6))), (7, .int (v4 - v6)), (0, .ref x0), (2, .int x2), (4, .int x4), (5, .int x5), (6, .int x6)]) dX12_left_114 (by decide) rfl ?_
    refine s_iload dX12_left_115 rfl ?_
    refine s_iload dX12_left_117 rfl ?_
    refine s_icmp_le (tgt := 127) dX12_left_119 (by decide) (fun c2 => ?_) (fun c2 => ?_)
    · refine s_iload dX12_left_127 rfl ?_
      refine s_locals [2, 3, 0, 5, 6, 1] rfl ?_
      exact UX12_left_129_ok hR hK153 x0 x2 (x3 + (v4 - v6)) x5 x6 (v4 - v6) x4
    · refine s_iload dX12_left_122 rfl ?_
      refine s_goto (tgt := 129) dX12_left_124 (by decide) ?_
      refine s_locals [2, 3, 0, 5, 6, 1] rfl ?_
      exact UX12_left_129_ok hR hK153 x0 x2 (x3 + (v4 - v6)) x5 x6 (v4 - v6) x6
def WX12_left_76 (K153 : Int32 → Int32 → Int32 → qP Int32) : Nat → Nat → Int32 → Int32 → Int32 → Int32 → Int32 → qP Int32
  | 0 => fun _ _ _ _ _ _ => qfail
  | N + 1 => fun x0 x2 x3 x4 x5 x6 => UX12_left_76 (WX12_left_76 K153 N) K153 x0 x2 x3 x4 x5 x6
theorem WX12_left_76_ok {l : Launch} {g : qG} {d n : Nat} {K153 : Int32 → Int32 → Int32 → qP Int32} (hK153 : ∀ (x2 : Int32) (x3 : Int32) (x4 : Int32), qS l g mX12_left (d + 4) n 0 0 0 0 cvI 153 [(2, .int x2), (3, .int x3), (4, .int x4)] [] (K153 x2 x3 x4)) : ∀ (N : Nat) (x0 : Nat) (x2 : Int32) (x3 : Int32) (x4 : Int32) (x5 : Int32) (x6 : Int32), qS l g mX12_left (d + 4) n 0 0 0 0 cvI 76 [(0, .ref x0), (2, .int x2), (3, .int x3), (4, .int x4), (5, .int x5), (6, .int x6)] [] (WX12_left_76 K153 N x0 x2 x3 x4 x5 x6) := by
  intro N
  induction N with
  | zero => intro x0 x2 x3 x4 x5 x6; exact s_fail
  | succ N ih => intro x0 x2 x3 x4 x5 x6; exact UX12_left_76_ok ih hK153 x0 x2 x3 x4 x5 x6
def UX12_left_153 (x2 : Int32) (x3 : Int32) (x4 : Int32) : qP Int32 :=
if x2 = 0 then (
qr x3) else (
qr x4)
set_option maxRecDepth 100000 in
set_option maxHeartbeats 4000000 in
theorem UX12_left_153_ok {l : Launch} {g : qG} {d n : Nat} (x2 : Int32) (x3 : Int32) (x4 : Int32) : qS l g mX12_left (d + 4) n 0 0 0 0 cvI 153 [(2, .int x2), (3, .int x3), (4, .int x4)] [] (UX12_left_153 x2 x3 x4) := by
  unfold UX12_left_153
  refine s_iload_n dX12_left_153 rfl ?_
  refine s_if_ne (tgt := 161) dX12_left_154 (by decide) (fun c1 => ?_) (fun c1 => ?_)
  · refine s_iload_n dX12_left_157 rfl ?_
    refine s_goto (tgt := 163) dX12_left_158 (by decide) ?_
    exact s_ireturn dX12_left_163 rfl rfl
  · refine s_iload dX12_left_161 rfl ?_
    exact s_ireturn dX12_left_163 rfl rfl
def UX12_left_65 (x0 : Nat) (x2 : Int32) : qP Int32 :=
WX12_left_76 (UX12_left_153) 1000000 x0 x2 (0 : Int32) (-1 : Int32) (-1 : Int32) (0 : Int32)
set_option maxRecDepth 100000 in
set_option maxHeartbeats 4000000 in
theorem UX12_left_65_ok {l : Launch} {g : qG} {d n : Nat} (x0 : Nat) (x2 : Int32) : qS l g mX12_left (d + 4) n 0 0 0 0 cvI 65 [(0, .ref x0), (2, .int x2)] [] (UX12_left_65 x0 x2) := by
  unfold UX12_left_65
  refine s_iconst (v := 0) dX12_left_65 (by decide) ?_
  refine s_istore_n (lv' := [(3, .int (0 : Int32)), (0, .ref x0), (2, .int x2)]) dX12_left_66 (by decide) rfl ?_
  refine s_iconst (v := -1) dX12_left_67 (by decide) ?_
  refine s_istore (lv' := [(4, .int (-1 : Int32)), (3, .int (0 : Int32)), (0, .ref x0), (2, .int x2)]) dX12_left_68 (by decide) rfl ?_
  refine s_iconst (v := -1) dX12_left_70 (by decide) ?_
  refine s_istore (lv' := [(5, .int (-1 : Int32)), (4, .int (-1 : Int32)), (3, .int (0 : Int32)), (0, .ref x0), (2, .int x2)]) dX12_left_71 (by decide) rfl ?_
  refine s_iconst (v := 0) dX12_left_73 (by decide) ?_
  refine s_istore (lv' := [(6, .int (0 : Int32)), (5, .int (-1 : Int32)), (4, .int (-1 : Int32)), (3, .int (0 : Int32)), (0, .ref x0), (2, .int x2)]) dX12_left_74 (by decide) rfl ?_
  refine s_locals [4, 5, 3, 2, 1, 0] rfl ?_
  exact WX12_left_76_ok (UX12_left_153_ok) 1000000 x0 x2 (0 : Int32) (-1 : Int32) (-1 : Int32) (0 : Int32)
def FX12_left (x0 : Nat) (x1 : Int32) (x2 : Int32) : qP Int32 :=
qb (FX12_in (x1).toInt64 (0 : Int64) (5 : Int64)) fun v1 =>
if v1 = 0 then (
UX12_left_22 x0) else (
qb (FX12_in (x2).toInt64 (0 : Int64) (1 : Int64)) fun v2 =>
if v2 = 0 then (
UX12_left_22 x0) else (
qb (qcl 12 x0) fun _ => qb (FX12_plans x0 x1 (0 : Int32)) fun v3 =>
qb (qcl 12 x0) fun _ => qb (FX12_asNow x0) fun v4 =>
WX12_left_43 (UX12_left_65) 1000000 x0 x1 x2 (0 : Int32)))
set_option maxRecDepth 100000 in
set_option maxHeartbeats 4000000 in
theorem FX12_left_ok {l : Launch} {g : qG} {d n : Nat} (x0 : Nat) (x1 : Int32) (x2 : Int32) : qS l g mX12_left (d + 4) n 0 0 0 0 cvI 0 [(0, .ref x0), (1, .int x1), (2, .int x2)] [] (FX12_left x0 x1 x2) := by
  unfold FX12_left
  refine s_iload_n dX12_left_0 rfl ?_
  refine s_i2l dX12_left_1 ?_
  refine s_lconst (v := 0) dX12_left_2 (by decide) ?_
  refine s_ldc2 dX12_left_3 lX12_70 ?_
  refine s_staticI (as := [.long (x1).toInt64, .long (0 : Int64), .long (5 : Int64)]) (rest := []) dX12_left_6 sX12_59 (CX12_in _ _ _) (Nat.le_of_ble_eq_true rfl) ⟨Nat.le_refl _, Nat.le_refl _⟩ fun v1 => ?_
  refine s_if_eq (tgt := 22) dX12_left_9 (by decide) (fun c1 => ?_) (fun c1 => ?_)
  · refine s_locals [0] rfl ?_
    exact UX12_left_22_ok x0
  · refine s_iload_n dX12_left_12 rfl ?_
    refine s_i2l dX12_left_13 ?_
    refine s_lconst (v := 0) dX12_left_14 (by decide) ?_
    refine s_lconst (v := 1) dX12_left_15 (by decide) ?_
    refine s_staticI (as := [.long (x2).toInt64, .long (0 : Int64), .long (1 : Int64)]) (rest := []) dX12_left_16 sX12_59 (CX12_in _ _ _) (Nat.le_of_ble_eq_true rfl) ⟨Nat.le_refl _, Nat.le_refl _⟩ fun v2 => ?_
    refine s_if_ne (tgt := 30) dX12_left_19 (by decide) (fun c2 => ?_) (fun c2 => ?_)
    · refine s_locals [0] rfl ?_
      exact UX12_left_22_ok x0
    · refine s_aload_n dX12_left_30 rfl ?_
      refine s_iload_n dX12_left_31 rfl ?_
      refine s_iconst (v := 0) dX12_left_32 (by decide) ?_
      refine s_virtI (as := [.int x1, .int (0 : Int32)]) (rest := []) dX12_left_33 vX12_115 (CX12_plans _ _ _) (Nat.le_of_ble_eq_true rfl) ⟨Nat.le_refl _, Nat.le_refl _⟩ fun v3 => ?_
      refine s_pop dX12_left_36 rfl ?_
      refine s_aload_n dX12_left_37 rfl ?_
      refine s_virtV (as := []) (rest := []) dX12_left_38 vX12_99 (CX12_asNow _) (Nat.le_of_ble_eq_true rfl) ⟨Nat.le_refl _, Nat.le_refl _⟩ fun v4 => ?_
      refine s_iconst (v := 0) dX12_left_41 (by decide) ?_
      refine s_istore_n (lv' := [(3, .int (0 : Int32)), (0, .ref x0), (1, .int x1), (2, .int x2)]) dX12_left_42 (by decide) rfl ?_
      refine s_locals [1, 2, 3, 0] rfl ?_
      exact WX12_left_43_ok (UX12_left_65_ok) 1000000 x0 x1 x2 (0 : Int32)
theorem CX12_left {l : Launch} {g : qG} {d : Nat} (x0 : Nat) (x1 : Int32) (x2 : Int32) : qCt l g mX12_left (d + 4) 0 0 cvI [.ref x0, .int x1, .int x2] (FX12_left x0 x1 x2) := s_of pn_X12 (Nat.le_of_ble_eq_true rfl) fun n => FX12_left_ok x0 x1 x2
def UX12_power_5 (R : Int64 → Int32 → Int64 → Int32 → qP Int64) (x0 : Int64) (x2 : Int32) (x3 : Int64) (x5 : Int32) : qP Int64 :=
if x2 ≤ x5 then (
qr x3) else (
R x0 x2 (x3 * x0) (x5 + 1))
set_option maxRecDepth 100000 in
set_option maxHeartbeats 4000000 in
theorem UX12_power_5_ok {l : Launch} {g : qG} {d n : Nat} {R : Int64 → Int32 → Int64 → Int32 → qP Int64} (hR : ∀ (x0 : Int64) (x2 : Int32) (x3 : Int64) (x5 : Int32), qS l g mX12_power d n 0 0 0 0 cvL 5 [(0, .long x0), (2, .int x2), (3, .long x3), (5, .int x5)] [] (R x0 x2 x3 x5)) (x0 : Int64) (x2 : Int32) (x3 : Int64) (x5 : Int32) : qS l g mX12_power d n 0 0 0 0 cvL 5 [(0, .long x0), (2, .int x2), (3, .long x3), (5, .int x5)] [] (UX12_power_5 R x0 x2 x3 x5) := by
  unfold UX12_power_5
  refine s_iload dX12_power_5 rfl ?_
  refine s_iload_n dX12_power_7 rfl ?_
  refine s_icmp_ge (tgt := 21) dX12_power_8 (by decide) (fun c1 => ?_) (fun c1 => ?_)
  · refine s_lload_n dX12_power_21 rfl ?_
    exact s_lreturn dX12_power_22 rfl
  · refine s_lload_n dX12_power_11 rfl ?_
    refine s_lload_n dX12_power_12 rfl ?_
    refine s_lmul dX12_power_13 ?_
    refine s_lstore_n (lv' := [(3, .long (x3 * x0)), (0, .long x0), (2, .int x2), (5, .int x5)]) dX12_power_14 (by decide) rfl ?_
    refine s_iinc (lv' := [(5, .int (x5 + 1)), (3, .long (x3 * x0)), (0, .long x0), (2, .int x2)]) dX12_power_15 rfl (by decide) rfl ?_
    refine s_goto (tgt := 5) dX12_power_18 (by decide) ?_
    refine s_locals [2, 3, 1, 0] rfl ?_
    exact hR x0 x2 (x3 * x0) (x5 + 1)
def WX12_power_5 : Nat → Int64 → Int32 → Int64 → Int32 → qP Int64
  | 0 => fun _ _ _ _ => qfail
  | N + 1 => fun x0 x2 x3 x5 => UX12_power_5 (WX12_power_5  N)  x0 x2 x3 x5
theorem WX12_power_5_ok {l : Launch} {g : qG} {d n : Nat} : ∀ (N : Nat) (x0 : Int64) (x2 : Int32) (x3 : Int64) (x5 : Int32), qS l g mX12_power d n 0 0 0 0 cvL 5 [(0, .long x0), (2, .int x2), (3, .long x3), (5, .int x5)] [] (WX12_power_5  N x0 x2 x3 x5) := by
  intro N
  induction N with
  | zero => intro x0 x2 x3 x5; exact s_fail
  | succ N ih => intro x0 x2 x3 x5; exact UX12_power_5_ok ih  x0 x2 x3 x5
def FX12_power (x0 : Int64) (x2 : Int32) : qP Int64 :=
WX12_power_5 1000000 x0 x2 (1 : Int64) (0 : Int32)
set_option maxRecDepth 100000 in
set_option maxHeartbeats 4000000 in
theorem FX12_power_ok {l : Launch} {g : qG} {d n : Nat} (x0 : Int64) (x2 : Int32) : qS l g mX12_power d n 0 0 0 0 cvL 0 [(0, .long x0), (2, .int x2)] [] (FX12_power x0 x2) := by
  unfold FX12_power
  refine s_lconst (v := 1) dX12_power_0 (by decide) ?_
  refine s_lstore_n (lv' := [(3, .long (1 : Int64)), (0, .long x0), (2, .int x2)]) dX12_power_1 (by decide) rfl ?_
  refine s_iconst (v := 0) dX12_power_2 (by decide) ?_
  refine s_istore (lv' := [(5, .int (0 : Int32)), (3, .long (1 : Int64)), (0, .long x0), (2, .int x2)]) dX12_power_3 (by decide) rfl ?_
  refine s_locals [2, 3, 1, 0] rfl ?_
  exact WX12_power_5_ok  1000000 x0 x2 (1 : Int64) (0 : Int32)
theorem CX12_power {l : Launch} {g : qG} {d : Nat} (x0 : Int64) (x2 : Int32) : qCt l g mX12_power d 0 0 cvL [.long x0, .int x2] (FX12_power x0 x2) := s_of pn_X12 (Nat.le_of_ble_eq_true rfl) fun n => FX12_power_ok x0 x2
def UX12_stung_48 (R : Int32 → Int32 → Int32 → Int64 → Int64 → Int32 → qP Int64) (x0 : Int32) (x1 : Int32) (x2 : Int32) (x5 : Int64) (x7 : Int32) (s0 : Int64) (s1 : Int64) : qP Int64 :=
qgd (¬ ((x7 + (1 : Int32))).toInt64 = 0) (
R x0 x1 x2 (s0 + s1) ((x5 * ((x1 - x7)).toInt64) / ((x7 + (1 : Int32))).toInt64) (x7 + 1))
set_option maxRecDepth 100000 in
set_option maxHeartbeats 4000000 in
theorem UX12_stung_48_ok {l : Launch} {g : qG} {d n : Nat} {R : Int32 → Int32 → Int32 → Int64 → Int64 → Int32 → qP Int64} (hR : ∀ (x0 : Int32) (x1 : Int32) (x2 : Int32) (x3 : Int64) (x5 : Int64) (x7 : Int32), qS l g mX12_stung (d + 1) n 0 0 0 0 cvL 8 [(0, .int x0), (1, .int x1), (2, .int x2), (3, .long x3), (5, .long x5), (7, .int x7)] [] (R x0 x1 x2 x3 x5 x7)) (x0 : Int32) (x1 : Int32) (x2 : Int32) (x5 : Int64) (x7 : Int32) (s0 : Int64) (s1 : Int64) : qS l g mX12_stung (d + 1) n 0 0 0 0 cvL 48 [(0, .int x0), (1, .int x1), (2, .int x2), (5, .long x5), (7, .int x7)] [.long s1, .long s0] (UX12_stung_48 R x0 x1 x2 x5 x7 s0 s1) := by
  unfold UX12_stung_48
  refine s_ladd dX12_stung_48 ?_
  refine s_lstore_n (lv' := [(3, .long (s0 + s1)), (0, .int x0), (1, .int x1), (2, .int x2), (5, .long x5), (7, .int x7)]) dX12_stung_49 (by decide) rfl ?_
  refine s_lload dX12_stung_50 rfl ?_
  refine s_iload_n dX12_stung_52 rfl ?_
  refine s_iload dX12_stung_53 rfl ?_
  refine s_isub dX12_stung_55 ?_
  refine s_i2l dX12_stung_56 ?_
  refine s_lmul dX12_stung_57 ?_
  refine s_iload dX12_stung_58 rfl ?_
  refine s_iconst (v := 1) dX12_stung_60 (by decide) ?_
  refine s_iadd dX12_stung_61 ?_
  refine s_i2l dX12_stung_62 ?_
  refine s_ldiv dX12_stung_63 ?_
  refine s_lstore (lv' := [(5, .long ((x5 * ((x1 - x7)).toInt64) / ((x7 + (1 : Int32))).toInt64)), (3, .long (s0 + s1)), (0, .int x0), (1, .int x1), (2, .int x2), (7, .int x7)]) dX12_stung_64 (by decide) rfl ?_
  refine s_iinc (lv' := [(7, .int (x7 + 1)), (5, .long ((x5 * ((x1 - x7)).toInt64) / ((x7 + (1 : Int32))).toInt64)), (3, .long (s0 + s1)), (0, .int x0), (1, .int x1), (2, .int x2)]) dX12_stung_66 rfl (by decide) rfl ?_
  refine s_goto (tgt := 8) dX12_stung_69 (by decide) ?_
  refine s_locals [3, 4, 5, 2, 1, 0] rfl ?_
  exact hR x0 x1 x2 (s0 + s1) ((x5 * ((x1 - x7)).toInt64) / ((x7 + (1 : Int32))).toInt64) (x7 + 1)
def UX12_stung_8 (R : Int32 → Int32 → Int32 → Int64 → Int64 → Int32 → qP Int64) (x0 : Int32) (x1 : Int32) (x2 : Int32) (x3 : Int64) (x5 : Int64) (x7 : Int32) : qP Int64 :=
if x1 < x7 then (
qr x3) else (
if x2 ≤ x7 then (
UX12_stung_48 R x0 x1 x2 x5 x7 x3 (0 : Int64)) else (
qb (FX12_power (x0).toInt64 x7) fun v1 =>
qb (FX12_power (((10 : Int32) - x0)).toInt64 (x1 - x7)) fun v2 =>
UX12_stung_48 R x0 x1 x2 x5 x7 x3 ((x5 * v1) * v2)))
set_option maxRecDepth 100000 in
set_option maxHeartbeats 4000000 in
theorem UX12_stung_8_ok {l : Launch} {g : qG} {d n : Nat} {R : Int32 → Int32 → Int32 → Int64 → Int64 → Int32 → qP Int64} (hR : ∀ (x0 : Int32) (x1 : Int32) (x2 : Int32) (x3 : Int64) (x5 : Int64) (x7 : Int32), qS l g mX12_stung (d + 1) n 0 0 0 0 cvL 8 [(0, .int x0), (1, .int x1), (2, .int x2), (3, .long x3), (5, .long x5), (7, .int x7)] [] (R x0 x1 x2 x3 x5 x7)) (x0 : Int32) (x1 : Int32) (x2 : Int32) (x3 : Int64) (x5 : Int64) (x7 : Int32) : qS l g mX12_stung (d + 1) n 0 0 0 0 cvL 8 [(0, .int x0), (1, .int x1), (2, .int x2), (3, .long x3), (5, .long x5), (7, .int x7)] [] (UX12_stung_8 R x0 x1 x2 x3 x5 x7) := by
  unfold UX12_stung_8
  refine s_iload dX12_stung_8 rfl ?_
  refine s_iload_n dX12_stung_10 rfl ?_
  refine s_icmp_gt (tgt := 72) dX12_stung_11 (by decide) (fun c1 => ?_) (fun c1 => ?_)
  · refine s_lload_n dX12_stung_72 rfl ?_
    exact s_lreturn dX12_stung_73 rfl
  · refine s_lload_n dX12_stung_14 rfl ?_
    refine s_iload dX12_stung_15 rfl ?_
    refine s_iload_n dX12_stung_17 rfl ?_
    refine s_icmp_ge (tgt := 47) dX12_stung_18 (by decide) (fun c2 => ?_) (fun c2 => ?_)
    · refine s_lconst (v := 0) dX12_stung_47 (by decide) ?_
      refine s_locals [0, 1, 2, 4, 5] rfl ?_
      exact UX12_stung_48_ok hR x0 x1 x2 x5 x7 x3 (0 : Int64)
    · refine s_lload dX12_stung_21 rfl ?_
      refine s_iload_n dX12_stung_23 rfl ?_
      refine s_i2l dX12_stung_24 ?_
      refine s_iload dX12_stung_25 rfl ?_
      refine s_staticL (as := [.long (x0).toInt64, .int x7]) (rest := [.long x5, .long x3]) dX12_stung_27 sX12_121 (CX12_power _ _) (Nat.le_of_ble_eq_true rfl) ⟨Nat.le_refl _, Nat.le_refl _⟩ fun v1 => ?_
      refine s_lmul dX12_stung_30 ?_
      refine s_bipush (v := 10) dX12_stung_31 (by decide) ?_
      refine s_iload_n dX12_stung_33 rfl ?_
      refine s_isub dX12_stung_34 ?_
      refine s_i2l dX12_stung_35 ?_
      refine s_iload_n dX12_stung_36 rfl ?_
      refine s_iload dX12_stung_37 rfl ?_
      refine s_isub dX12_stung_39 ?_
      refine s_staticL (as := [.long (((10 : Int32) - x0)).toInt64, .int (x1 - x7)]) (rest := [.long (x5 * v1), .long x3]) dX12_stung_40 sX12_121 (CX12_power _ _) (Nat.le_of_ble_eq_true rfl) ⟨Nat.le_refl _, Nat.le_refl _⟩ fun v2 => ?_
      refine s_lmul dX12_stung_43 ?_
      refine s_goto (tgt := 48) dX12_stung_44 (by decide) ?_
      refine s_locals [0, 1, 2, 4, 5] rfl ?_
      exact UX12_stung_48_ok hR x0 x1 x2 x5 x7 x3 ((x5 * v1) * v2)
def WX12_stung_8 : Nat → Int32 → Int32 → Int32 → Int64 → Int64 → Int32 → qP Int64
  | 0 => fun _ _ _ _ _ _ => qfail
  | N + 1 => fun x0 x1 x2 x3 x5 x7 => UX12_stung_8 (WX12_stung_8  N)  x0 x1 x2 x3 x5 x7
theorem WX12_stung_8_ok {l : Launch} {g : qG} {d n : Nat} : ∀ (N : Nat) (x0 : Int32) (x1 : Int32) (x2 : Int32) (x3 : Int64) (x5 : Int64) (x7 : Int32), qS l g mX12_stung (d + 1) n 0 0 0 0 cvL 8 [(0, .int x0), (1, .int x1), (2, .int x2), (3, .long x3), (5, .long x5), (7, .int x7)] [] (WX12_stung_8  N x0 x1 x2 x3 x5 x7) := by
  intro N
  induction N with
  | zero => intro x0 x1 x2 x3 x5 x7; exact s_fail
  | succ N ih => intro x0 x1 x2 x3 x5 x7; exact UX12_stung_8_ok ih  x0 x1 x2 x3 x5 x7
def FX12_stung (x0 : Int32) (x1 : Int32) (x2 : Int32) : qP Int64 :=
WX12_stung_8 1000000 x0 x1 x2 (0 : Int64) (1 : Int64) (0 : Int32)
set_option maxRecDepth 100000 in
set_option maxHeartbeats 4000000 in
theorem FX12_stung_ok {l : Launch} {g : qG} {d n : Nat} (x0 : Int32) (x1 : Int32) (x2 : Int32) : qS l g mX12_stung (d + 1) n 0 0 0 0 cvL 0 [(0, .int x0), (1, .int x1), (2, .int x2)] [] (FX12_stung x0 x1 x2) := by
  unfold FX12_stung
  refine s_lconst (v := 0) dX12_stung_0 (by decide) ?_
  refine s_lstore_n (lv' := [(3, .long (0 : Int64)), (0, .int x0), (1, .int x1), (2, .int x2)]) dX12_stung_1 (by decide) rfl ?_
  refine s_lconst (v := 1) dX12_stung_2 (by decide) ?_
  refine s_lstore (lv' := [(5, .long (1 : Int64)), (3, .long (0 : Int64)), (0, .int x0), (1, .int x1), (2, .int x2)]) dX12_stung_3 (by decide) rfl ?_
  refine s_iconst (v := 0) dX12_stung_5 (by decide) ?_
  refine s_istore (lv' := [(7, .int (0 : Int32)), (5, .long (1 : Int64)), (3, .long (0 : Int64)), (0, .int x0), (1, .int x1), (2, .int x2)]) dX12_stung_6 (by decide) rfl ?_
  refine s_locals [3, 4, 5, 2, 1, 0] rfl ?_
  exact WX12_stung_8_ok  1000000 x0 x1 x2 (0 : Int64) (1 : Int64) (0 : Int32)
theorem CX12_stung {l : Launch} {g : qG} {d : Nat} (x0 : Int32) (x1 : Int32) (x2 : Int32) : qCt l g mX12_stung (d + 1) 0 0 cvL [.int x0, .int x1, .int x2] (FX12_stung x0 x1 x2) := s_of pn_X12 (Nat.le_of_ble_eq_true rfl) fun n => FX12_stung_ok x0 x1 x2
def UX12_divisor_6 (R : Int64 → Int64 → qP Int64) (x4 : Int64) (x6 : Int64) : qP Int64 :=
if (lg_cmp x6 (0 : Int64)) = 0 then (
qr x4) else (
qgd (¬ x6 = 0) (
R x6 (x4 - x4 / x6 * x6)))
set_option maxRecDepth 100000 in
set_option maxHeartbeats 4000000 in
theorem UX12_divisor_6_ok {l : Launch} {g : qG} {d n : Nat} {R : Int64 → Int64 → qP Int64} (hR : ∀ (x4 : Int64) (x6 : Int64), qS l g mX12_divisor d n 0 0 0 0 cvL 6 [(4, .long x4), (6, .long x6)] [] (R x4 x6)) (x4 : Int64) (x6 : Int64) : qS l g mX12_divisor d n 0 0 0 0 cvL 6 [(4, .long x4), (6, .long x6)] [] (UX12_divisor_6 R x4 x6) := by
  unfold UX12_divisor_6
  refine s_lload dX12_divisor_6 rfl ?_
  refine s_lconst (v := 0) dX12_divisor_8 (by decide) ?_
  refine s_lcmp dX12_divisor_9 ?_
  refine s_if_eq (tgt := 31) dX12_divisor_10 (by decide) (fun c1 => ?_) (fun c1 => ?_)
  · refine s_lload dX12_divisor_31 rfl ?_
    exact s_lreturn dX12_divisor_33 rfl
  · refine s_lload dX12_divisor_13 rfl ?_
    refine s_lload dX12_divisor_15 rfl ?_
    refine s_lrem dX12_divisor_17 ?_
    refine s_lstore (lv' := [(8, .long (x4 - x4 / x6 * x6)), (4, .long x4), (6, .long x6)]) dX12_divisor_18 (by decide) rfl ?_
    refine s_lload dX12_divisor_20 rfl ?_
    refine s_lstore (lv' := [(4, .long x6), (8, .long (x4 - x4 / x6 * x6)), (6, .long x6)]) dX12_divisor_22 (by decide) rfl ?_
    refine s_lload dX12_divisor_24 rfl ?_
    refine s_lstore (lv' := [(6, .long (x4 - x4 / x6 * x6)), (4, .long x6), (8, .long (x4 - x4 / x6 * x6))]) dX12_divisor_26 (by decide) rfl ?_
    refine s_goto (tgt := 6) dX12_divisor_28 (by decide) ?_
    refine s_locals [1, 0] rfl ?_
    exact hR x6 (x4 - x4 / x6 * x6)
def WX12_divisor_6 : Nat → Int64 → Int64 → qP Int64
  | 0 => fun _ _ => qfail
  | N + 1 => fun x4 x6 => UX12_divisor_6 (WX12_divisor_6  N)  x4 x6
theorem WX12_divisor_6_ok {l : Launch} {g : qG} {d n : Nat} : ∀ (N : Nat) (x4 : Int64) (x6 : Int64), qS l g mX12_divisor d n 0 0 0 0 cvL 6 [(4, .long x4), (6, .long x6)] [] (WX12_divisor_6  N x4 x6) := by
  intro N
  induction N with
  | zero => intro x4 x6; exact s_fail
  | succ N ih => intro x4 x6; exact UX12_divisor_6_ok ih  x4 x6
def FX12_divisor (x0 : Int64) (x2 : Int64) : qP Int64 :=
WX12_divisor_6 1000000 x0 x2
set_option maxRecDepth 100000 in
set_option maxHeartbeats 4000000 in
theorem FX12_divisor_ok {l : Launch} {g : qG} {d n : Nat} (x0 : Int64) (x2 : Int64) : qS l g mX12_divisor d n 0 0 0 0 cvL 0 [(0, .long x0), (2, .long x2)] [] (FX12_divisor x0 x2) := by
  unfold FX12_divisor
  refine s_lload_n dX12_divisor_0 rfl ?_
  refine s_lstore (lv' := [(4, .long x0), (0, .long x0), (2, .long x2)]) dX12_divisor_1 (by decide) rfl ?_
  refine s_lload_n dX12_divisor_3 rfl ?_
  refine s_lstore (lv' := [(6, .long x2), (4, .long x0), (0, .long x0), (2, .long x2)]) dX12_divisor_4 (by decide) rfl ?_
  refine s_locals [1, 0] rfl ?_
  exact WX12_divisor_6_ok  1000000 x0 x2
theorem CX12_divisor {l : Launch} {g : qG} {d : Nat} (x0 : Int64) (x2 : Int64) : qCt l g mX12_divisor d 0 0 cvL [.long x0, .long x2] (FX12_divisor x0 x2) := s_of pn_X12 (Nat.le_of_ble_eq_true rfl) fun n => FX12_divisor_ok x0 x2
def UX12_stings_36 (x0 : Nat) : qP Int32 :=
qb (qcl 12 x0) fun _ => qb (FX12_bad x0) fun v1 =>
qr v1
set_option maxRecDepth 100000 in
set_option maxHeartbeats 4000000 in
theorem UX12_stings_36_ok {l : Launch} {g : qG} {d n : Nat} (x0 : Nat) : qS l g mX12_stings (d + 2) n 0 0 0 0 cvI 36 [(0, .ref x0)] [] (UX12_stings_36 x0) := by
  unfold UX12_stings_36
  refine s_aload_n dX12_stings_36 rfl ?_
  refine s_virtI (as := []) (rest := []) dX12_stings_37 vX12_74 (CX12_bad _) (Nat.le_of_ble_eq_true rfl) ⟨Nat.le_refl _, Nat.le_refl _⟩ fun v1 => ?_
  exact s_ireturn dX12_stings_40 rfl rfl
def FX12_stings (x0 : Nat) (x1 : Int32) (x2 : Int32) (x3 : Int32) : qP Int32 :=
qb (FX12_in (x1).toInt64 (0 : Int64) (10 : Int64)) fun v1 =>
if v1 = 0 then (
UX12_stings_36 x0) else (
qb (FX12_in (x2).toInt64 (0 : Int64) (12 : Int64)) fun v2 =>
if v2 = 0 then (
UX12_stings_36 x0) else (
qb (FX12_in (x3).toInt64 (0 : Int64) (13 : Int64)) fun v3 =>
if v3 = 0 then (
UX12_stings_36 x0) else (
qb (FX12_stung x1 x2 x3) fun v4 =>
qb (FX12_power (10 : Int64) x2) fun v5 =>
qb (FX12_divisor v4 v5) fun v6 =>
qgd (¬ v6 = 0) (
qb (pV 12 x0 6 (.long (v4 / v6))) fun _ =>
qgd (¬ v6 = 0) (
qb (pV 12 x0 7 (.long (v5 / v6))) fun _ =>
qr (1 : Int32))))))
set_option maxRecDepth 100000 in
set_option maxHeartbeats 4000000 in
theorem FX12_stings_ok {l : Launch} {g : qG} {d n : Nat} (x0 : Nat) (x1 : Int32) (x2 : Int32) (x3 : Int32) : qS l g mX12_stings (d + 2) n 0 0 0 0 cvI 0 [(0, .ref x0), (1, .int x1), (2, .int x2), (3, .int x3)] [] (FX12_stings x0 x1 x2 x3) := by
  unfold FX12_stings
  refine s_iload_n dX12_stings_0 rfl ?_
  refine s_i2l dX12_stings_1 ?_
  refine s_lconst (v := 0) dX12_stings_2 (by decide) ?_
  refine s_ldc2 dX12_stings_3 lX12_125 ?_
  refine s_staticI (as := [.long (x1).toInt64, .long (0 : Int64), .long (10 : Int64)]) (rest := []) dX12_stings_6 sX12_59 (CX12_in _ _ _) (Nat.le_of_ble_eq_true rfl) ⟨Nat.le_refl _, Nat.le_refl _⟩ fun v1 => ?_
  refine s_if_eq (tgt := 36) dX12_stings_9 (by decide) (fun c1 => ?_) (fun c1 => ?_)
  · refine s_locals [0] rfl ?_
    exact UX12_stings_36_ok x0
  · refine s_iload_n dX12_stings_12 rfl ?_
    refine s_i2l dX12_stings_13 ?_
    refine s_lconst (v := 0) dX12_stings_14 (by decide) ?_
    refine s_ldc2 dX12_stings_15 lX12_81 ?_
    refine s_staticI (as := [.long (x2).toInt64, .long (0 : Int64), .long (12 : Int64)]) (rest := []) dX12_stings_18 sX12_59 (CX12_in _ _ _) (Nat.le_of_ble_eq_true rfl) ⟨Nat.le_refl _, Nat.le_refl _⟩ fun v2 => ?_
    refine s_if_eq (tgt := 36) dX12_stings_21 (by decide) (fun c2 => ?_) (fun c2 => ?_)
    · refine s_locals [0] rfl ?_
      exact UX12_stings_36_ok x0
    · refine s_iload_n dX12_stings_24 rfl ?_
      refine s_i2l dX12_stings_25 ?_
      refine s_lconst (v := 0) dX12_stings_26 (by decide) ?_
      refine s_ldc2 dX12_stings_27 lX12_127 ?_
      refine s_staticI (as := [.long (x3).toInt64, .long (0 : Int64), .long (13 : Int64)]) (rest := []) dX12_stings_30 sX12_59 (CX12_in _ _ _) (Nat.le_of_ble_eq_true rfl) ⟨Nat.le_refl _, Nat.le_refl _⟩ fun v3 => ?_
      refine s_if_ne (tgt := 41) dX12_stings_33 (by decide) (fun c3 => ?_) (fun c3 => ?_)
      · refine s_locals [0] rfl ?_
        exact UX12_stings_36_ok x0
      · refine s_iload_n dX12_stings_41 rfl ?_
        refine s_iload_n dX12_stings_42 rfl ?_
        refine s_iload_n dX12_stings_43 rfl ?_
        refine s_staticL (as := [.int x1, .int x2, .int x3]) (rest := []) dX12_stings_44 sX12_129 (CX12_stung _ _ _) (Nat.le_of_ble_eq_true rfl) ⟨Nat.le_refl _, Nat.le_refl _⟩ fun v4 => ?_
        refine s_lstore (lv' := [(4, .long v4), (0, .ref x0), (1, .int x1), (2, .int x2), (3, .int x3)]) dX12_stings_47 (by decide) rfl ?_
        refine s_ldc2 dX12_stings_49 lX12_125 ?_
        refine s_iload_n dX12_stings_52 rfl ?_
        refine s_staticL (as := [.long (10 : Int64), .int x2]) (rest := []) dX12_stings_53 sX12_121 (CX12_power _ _) (Nat.le_of_ble_eq_true rfl) ⟨Nat.le_refl _, Nat.le_refl _⟩ fun v5 => ?_
        refine s_lstore (lv' := [(6, .long v5), (4, .long v4), (0, .ref x0), (1, .int x1), (2, .int x2), (3, .int x3)]) dX12_stings_56 (by decide) rfl ?_
        refine s_lload dX12_stings_58 rfl ?_
        refine s_lload dX12_stings_60 rfl ?_
        refine s_staticL (as := [.long v4, .long v5]) (rest := []) dX12_stings_62 sX12_133 (CX12_divisor _ _) (Nat.le_of_ble_eq_true rfl) ⟨Nat.le_refl _, Nat.le_refl _⟩ fun v6 => ?_
        refine s_lstore (lv' := [(8, .long v6), (6, .long v5), (4, .long v4), (0, .ref x0), (1, .int x1), (2, .int x2), (3, .int x3)]) dX12_stings_65 (by decide) rfl ?_
        refine s_aload_n dX12_stings_67 rfl ?_
        refine s_lload dX12_stings_68 rfl ?_
        refine s_lload dX12_stings_70 rfl ?_
        refine s_ldiv dX12_stings_72 ?_
        refine s_put dX12_stings_73 fX12_137 rfl rfl ?_
        refine s_aload_n dX12_stings_76 rfl ?_
        refine s_lload dX12_stings_77 rfl ?_
        refine s_lload dX12_stings_79 rfl ?_
        refine s_ldiv dX12_stings_81 ?_
        refine s_put dX12_stings_82 fX12_47 rfl rfl ?_
        refine s_iconst (v := 1) dX12_stings_85 (by decide) ?_
        exact s_ireturn dX12_stings_86 rfl rfl
theorem CX12_stings {l : Launch} {g : qG} {d : Nat} (x0 : Nat) (x1 : Int32) (x2 : Int32) (x3 : Int32) : qCt l g mX12_stings (d + 2) 0 0 cvI [.ref x0, .int x1, .int x2, .int x3] (FX12_stings x0 x1 x2 x3) := s_of pn_X12 (Nat.le_of_ble_eq_true rfl) fun n => FX12_stings_ok x0 x1 x2 x3
def UX12_surest_49 (x0 : Nat) : qP Int32 :=
qb (qcl 12 x0) fun _ => qb (FX12_bad x0) fun v1 =>
qr v1
set_option maxRecDepth 100000 in
set_option maxHeartbeats 4000000 in
theorem UX12_surest_49_ok {l : Launch} {g : qG} {d n : Nat} (x0 : Nat) : qS l g mX12_surest (d + 2) n 0 0 0 0 cvI 49 [(0, .ref x0)] [] (UX12_surest_49 x0) := by
  unfold UX12_surest_49
  refine s_aload_n dX12_surest_49 rfl ?_
  refine s_virtI (as := []) (rest := []) dX12_surest_50 vX12_74 (CX12_bad _) (Nat.le_of_ble_eq_true rfl) ⟨Nat.le_refl _, Nat.le_refl _⟩ fun v1 => ?_
  exact s_ireturn dX12_surest_53 rfl rfl
def UX12_surest_60 (R : Int32 → Int32 → Int32 → Int32 → Int32 → Int32 → qP Int32) (x1 : Int32) (x2 : Int32) (x3 : Int32) (x4 : Int32) (x5 : Int32) (x6 : Int32) : qP Int32 :=
if (12 : Int32) < x6 then (
qr x5) else (
qb (FX12_stung x1 x6 x2) fun v1 =>
qb (FX12_power (10 : Int64) x6) fun v2 =>
if (lg_cmp (v1 * (x4).toInt64) ((x3).toInt64 * v2)) < 0 then (
R x1 x2 x3 x4 x5 (x6 + 1)) else (
R x1 x2 x3 x4 x6 (x6 + 1)))
set_option maxRecDepth 100000 in
set_option maxHeartbeats 4000000 in
theorem UX12_surest_60_ok {l : Launch} {g : qG} {d n : Nat} {R : Int32 → Int32 → Int32 → Int32 → Int32 → Int32 → qP Int32} (hR : ∀ (x1 : Int32) (x2 : Int32) (x3 : Int32) (x4 : Int32) (x5 : Int32) (x6 : Int32), qS l g mX12_surest (d + 2) n 0 0 0 0 cvI 60 [(1, .int x1), (2, .int x2), (3, .int x3), (4, .int x4), (5, .int x5), (6, .int x6)] [] (R x1 x2 x3 x4 x5 x6)) (x1 : Int32) (x2 : Int32) (x3 : Int32) (x4 : Int32) (x5 : Int32) (x6 : Int32) : qS l g mX12_surest (d + 2) n 0 0 0 0 cvI 60 [(1, .int x1), (2, .int x2), (3, .int x3), (4, .int x4), (5, .int x5), (6, .int x6)] [] (UX12_surest_60 R x1 x2 x3 x4 x5 x6) := by
  unfold UX12_surest_60
  refine s_iload dX12_surest_60 rfl ?_
  refine s_bipush (v := 12) dX12_surest_62 (by decide) ?_
  refine s_icmp_gt (tgt := 108) dX12_surest_64 (by decide) (fun c1 => ?_) (fun c1 => ?_)
  · refine s_iload dX12_surest_108 rfl ?_
    exact s_ireturn dX12_surest_110 rfl rfl
  · refine s_iload_n dX12_surest_67 rfl ?_
    refine s_iload dX12_surest_68 rfl ?_
    refine s_iload_n dX12_surest_70 rfl ?_
    refine s_staticL (as := [.int x1, .int x6, .int x2]) (rest := []) dX12_surest_71 sX12_129 (CX12_stung _ _ _) (Nat.le_of_ble_eq_true rfl) ⟨Nat.le_refl _, Nat.le_refl _⟩ fun v1 => ?_
    refine s_iload dX12_surest_74 rfl ?_
    refine s_i2l dX12_surest_76 ?_
    refine s_lmul dX12_surest_77 ?_
    refine s_iload_n dX12_surest_78 rfl ?_
    refine s_i2l dX12_surest_79 ?_
    refine s_ldc2 dX12_surest_80 lX12_125 ?_
    refine s_iload dX12_surest_83 rfl ?_
    refine s_staticL (as := [.long (10 : Int64), .int x6]) (rest := [.long (x3).toInt64, .long (v1 * (x4).toInt64)]) dX12_surest_85 sX12_121 (CX12_power _ _) (Nat.le_of_ble_eq_true rfl) ⟨Nat.le_refl _, Nat.le_refl _⟩ fun v2 => ?_
    refine s_lmul dX12_surest_88 ?_
    refine s_lcmp dX12_surest_89 ?_
    refine s_if_lt (tgt := 98) dX12_surest_90 (by decide) (fun c2 => ?_) (fun c2 => ?_)
    · refine s_iload dX12_surest_98 rfl ?_
      refine s_istore (lv' := [(5, .int x5), (1, .int x1), (2, .int x2), (3, .int x3), (4, .int x4), (6, .int x6)]) dX12_surest_100 (by decide) rfl ?_
      refine s_iinc (lv' := [(6, .int (x6 + 1)), (5, .int x5), (1, .int x1), (2, .int x2), (3, .int x3), (4, .int x4)]) dX12_surest_102 rfl (by decide) rfl ?_
      refine s_goto (tgt := 60) dX12_surest_105 (by decide) ?_
      refine s_locals [2, 3, 4, 5, 1, 0] rfl ?_
      exact hR x1 x2 x3 x4 x5 (x6 + 1)
    · refine s_iload dX12_surest_93 rfl ?_
      refine s_goto (tgt := 100) dX12_surest_95 (by decide) ?_
      refine s_istore (lv' := [(5, .int x6), (1, .int x1), (2, .int x2), (3, .int x3), (4, .int x4), (6, .int x6)]) dX12_surest_100 (by decide) rfl ?_
      refine s_iinc (lv' := [(6, .int (x6 + 1)), (5, .int x6), (1, .int x1), (2, .int x2), (3, .int x3), (4, .int x4)]) dX12_surest_102 rfl (by decide) rfl ?_
      refine s_goto (tgt := 60) dX12_surest_105 (by decide) ?_
      refine s_locals [2, 3, 4, 5, 1, 0] rfl ?_
      exact hR x1 x2 x3 x4 x6 (x6 + 1)
def WX12_surest_60 : Nat → Int32 → Int32 → Int32 → Int32 → Int32 → Int32 → qP Int32
  | 0 => fun _ _ _ _ _ _ => qfail
  | N + 1 => fun x1 x2 x3 x4 x5 x6 => UX12_surest_60 (WX12_surest_60  N)  x1 x2 x3 x4 x5 x6
theorem WX12_surest_60_ok {l : Launch} {g : qG} {d n : Nat} : ∀ (N : Nat) (x1 : Int32) (x2 : Int32) (x3 : Int32) (x4 : Int32) (x5 : Int32) (x6 : Int32), qS l g mX12_surest (d + 2) n 0 0 0 0 cvI 60 [(1, .int x1), (2, .int x2), (3, .int x3), (4, .int x4), (5, .int x5), (6, .int x6)] [] (WX12_surest_60  N x1 x2 x3 x4 x5 x6) := by
  intro N
  induction N with
  | zero => intro x1 x2 x3 x4 x5 x6; exact s_fail
  | succ N ih => intro x1 x2 x3 x4 x5 x6; exact UX12_surest_60_ok ih  x1 x2 x3 x4 x5 x6
def FX12_surest (x0 : Nat) (x1 : Int32) (x2 : Int32) (x3 : Int32) (x4 : Int32) : qP Int32 :=
qb (FX12_in (x1).toInt64 (0 : Int64) (10 : Int64)) fun v1 =>
if v1 = 0 then (
UX12_surest_49 x0) else (
qb (FX12_in (x2).toInt64 (0 : Int64) (13 : Int64)) fun v2 =>
if v2 = 0 then (
UX12_surest_49 x0) else (
qb (FX12_in (x4).toInt64 (1 : Int64) (99 : Int64)) fun v3 =>
if v3 = 0 then (
UX12_surest_49 x0) else (
qb (FX12_in (x3).toInt64 (1 : Int64) (x4).toInt64) fun v4 =>
if v4 = 0 then (
UX12_surest_49 x0) else (
WX12_surest_60 1000000 x1 x2 x3 x4 (-1 : Int32) (0 : Int32)))))
set_option maxRecDepth 100000 in
set_option maxHeartbeats 4000000 in
theorem FX12_surest_ok {l : Launch} {g : qG} {d n : Nat} (x0 : Nat) (x1 : Int32) (x2 : Int32) (x3 : Int32) (x4 : Int32) : qS l g mX12_surest (d + 2) n 0 0 0 0 cvI 0 [(0, .ref x0), (1, .int x1), (2, .int x2), (3, .int x3), (4, .int x4)] [] (FX12_surest x0 x1 x2 x3 x4) := by
  unfold FX12_surest
  refine s_iload_n dX12_surest_0 rfl ?_
  refine s_i2l dX12_surest_1 ?_
  refine s_lconst (v := 0) dX12_surest_2 (by decide) ?_
  refine s_ldc2 dX12_surest_3 lX12_125 ?_
  refine s_staticI (as := [.long (x1).toInt64, .long (0 : Int64), .long (10 : Int64)]) (rest := []) dX12_surest_6 sX12_59 (CX12_in _ _ _) (Nat.le_of_ble_eq_true rfl) ⟨Nat.le_refl _, Nat.le_refl _⟩ fun v1 => ?_
  refine s_if_eq (tgt := 49) dX12_surest_9 (by decide) (fun c1 => ?_) (fun c1 => ?_)
  · refine s_locals [0] rfl ?_
    exact UX12_surest_49_ok x0
  · refine s_iload_n dX12_surest_12 rfl ?_
    refine s_i2l dX12_surest_13 ?_
    refine s_lconst (v := 0) dX12_surest_14 (by decide) ?_
    refine s_ldc2 dX12_surest_15 lX12_127 ?_
    refine s_staticI (as := [.long (x2).toInt64, .long (0 : Int64), .long (13 : Int64)]) (rest := []) dX12_surest_18 sX12_59 (CX12_in _ _ _) (Nat.le_of_ble_eq_true rfl) ⟨Nat.le_refl _, Nat.le_refl _⟩ fun v2 => ?_
    refine s_if_eq (tgt := 49) dX12_surest_21 (by decide) (fun c2 => ?_) (fun c2 => ?_)
    · refine s_locals [0] rfl ?_
      exact UX12_surest_49_ok x0
    · refine s_iload dX12_surest_24 rfl ?_
      refine s_i2l dX12_surest_26 ?_
      refine s_lconst (v := 1) dX12_surest_27 (by decide) ?_
      refine s_ldc2 dX12_surest_28 lX12_140 ?_
      refine s_staticI (as := [.long (x4).toInt64, .long (1 : Int64), .long (99 : Int64)]) (rest := []) dX12_surest_31 sX12_59 (CX12_in _ _ _) (Nat.le_of_ble_eq_true rfl) ⟨Nat.le_refl _, Nat.le_refl _⟩ fun v3 => ?_
      refine s_if_eq (tgt := 49) dX12_surest_34 (by decide) (fun c3 => ?_) (fun c3 => ?_)
      · refine s_locals [0] rfl ?_
        exact UX12_surest_49_ok x0
      · refine s_iload_n dX12_surest_37 rfl ?_
        refine s_i2l dX12_surest_38 ?_
        refine s_lconst (v := 1) dX12_surest_39 (by decide) ?_
        refine s_iload dX12_surest_40 rfl ?_
        refine s_i2l dX12_surest_42 ?_
        refine s_staticI (as := [.long (x3).toInt64, .long (1 : Int64), .long (x4).toInt64]) (rest := []) dX12_surest_43 sX12_59 (CX12_in _ _ _) (Nat.le_of_ble_eq_true rfl) ⟨Nat.le_refl _, Nat.le_refl _⟩ fun v4 => ?_
        refine s_if_ne (tgt := 54) dX12_surest_46 (by decide) (fun c4 => ?_) (fun c4 => ?_)
        · refine s_locals [0] rfl ?_
          exact UX12_surest_49_ok x0
        · refine s_iconst (v := -1) dX12_surest_54 (by decide) ?_
          refine s_istore (lv' := [(5, .int (-1 : Int32)), (0, .ref x0), (1, .int x1), (2, .int x2), (3, .int x3), (4, .int x4)]) dX12_surest_55 (by decide) rfl ?_
          refine s_iconst (v := 0) dX12_surest_57 (by decide) ?_
          refine s_istore (lv' := [(6, .int (0 : Int32)), (5, .int (-1 : Int32)), (0, .ref x0), (1, .int x1), (2, .int x2), (3, .int x3), (4, .int x4)]) dX12_surest_58 (by decide) rfl ?_
          refine s_locals [3, 4, 5, 6, 1, 0] rfl ?_
          exact WX12_surest_60_ok  1000000 x1 x2 x3 x4 (-1 : Int32) (0 : Int32)
theorem CX12_surest {l : Launch} {g : qG} {d : Nat} (x0 : Nat) (x1 : Int32) (x2 : Int32) (x3 : Int32) (x4 : Int32) : qCt l g mX12_surest (d + 2) 0 0 cvI [.ref x0, .int x1, .int x2, .int x3, .int x4] (FX12_surest x0 x1 x2 x3 x4) := s_of pn_X12 (Nat.le_of_ble_eq_true rfl) fun n => FX12_surest_ok x0 x1 x2 x3 x4
def UX12_told_20 (x0 : Nat) : qP Int32 :=
qb (qcl 12 x0) fun _ => qb (FX12_bad x0) fun v1 =>
qr v1
set_option maxRecDepth 100000 in
set_option maxHeartbeats 4000000 in
theorem UX12_told_20_ok {l : Launch} {g : qG} {d n : Nat} (x0 : Nat) : qS l g mX12_told (d + 2) n 0 0 0 0 cvI 20 [(0, .ref x0)] [] (UX12_told_20 x0) := by
  unfold UX12_told_20
  refine s_aload_n dX12_told_20 rfl ?_
  refine s_virtI (as := []) (rest := []) dX12_told_21 vX12_74 (CX12_bad _) (Nat.le_of_ble_eq_true rfl) ⟨Nat.le_refl _, Nat.le_refl _⟩ fun v1 => ?_
  exact s_ireturn dX12_told_24 rfl rfl
def FX12_told (x0 : Nat) (x1 : Int32) (x2 : Int32) : qP Int32 :=
qb (qcl 12 x0) fun _ => qb (FX12_isPlot x0 x1) fun v1 =>
if v1 = 0 then (
UX12_told_20 x0) else (
qb (FX12_in (x2).toInt64 (0 : Int64) (20 : Int64)) fun v2 =>
if v2 = 0 then (
UX12_told_20 x0) else (
qb (gR 12 x0 0) fun v3 =>
qb (aI v3 (((16 : Int32) + ((3 : Int32) * x1)) + (2 : Int32))) fun v4 =>
qb (gR 12 x0 0) fun v5 =>
qb (sI v5 (((16 : Int32) + ((3 : Int32) * x1)) + (2 : Int32)) x2) fun _ =>
qr v4))
set_option maxRecDepth 100000 in
set_option maxHeartbeats 4000000 in
theorem FX12_told_ok {l : Launch} {g : qG} {d n : Nat} (x0 : Nat) (x1 : Int32) (x2 : Int32) : qS l g mX12_told (d + 2) n 0 0 0 0 cvI 0 [(0, .ref x0), (1, .int x1), (2, .int x2)] [] (FX12_told x0 x1 x2) := by
  unfold FX12_told
  refine s_aload_n dX12_told_0 rfl ?_
  refine s_iload_n dX12_told_1 rfl ?_
  refine s_virtI (as := [.int x1]) (rest := []) dX12_told_2 vX12_63 (CX12_isPlot _ _) (Nat.le_of_ble_eq_true rfl) ⟨Nat.le_refl _, Nat.le_refl _⟩ fun v1 => ?_
  refine s_if_eq (tgt := 20) dX12_told_5 (by decide) (fun c1 => ?_) (fun c1 => ?_)
  · refine s_locals [0] rfl ?_
    exact UX12_told_20_ok x0
  · refine s_iload_n dX12_told_8 rfl ?_
    refine s_i2l dX12_told_9 ?_
    refine s_lconst (v := 0) dX12_told_10 (by decide) ?_
    refine s_ldc2 dX12_told_11 lX12_72 ?_
    refine s_staticI (as := [.long (x2).toInt64, .long (0 : Int64), .long (20 : Int64)]) (rest := []) dX12_told_14 sX12_59 (CX12_in _ _ _) (Nat.le_of_ble_eq_true rfl) ⟨Nat.le_refl _, Nat.le_refl _⟩ fun v2 => ?_
    refine s_if_ne (tgt := 25) dX12_told_17 (by decide) (fun c2 => ?_) (fun c2 => ?_)
    · refine s_locals [0] rfl ?_
      exact UX12_told_20_ok x0
    · refine s_aload_n dX12_told_25 rfl ?_
      refine s_gR dX12_told_26 fX12_7 fun v3 => ?_
      refine s_bipush (v := 16) dX12_told_29 (by decide) ?_
      refine s_iconst (v := 3) dX12_told_31 (by decide) ?_
      refine s_iload_n dX12_told_32 rfl ?_
      refine s_imul dX12_told_33 ?_
      refine s_iadd dX12_told_34 ?_
      refine s_iconst (v := 2) dX12_told_35 (by decide) ?_
      refine s_iadd dX12_told_36 ?_
      refine s_aI dX12_told_37 fun v4 => ?_
      refine s_istore_n (lv' := [(3, .int v4), (0, .ref x0), (1, .int x1), (2, .int x2)]) dX12_told_38 (by decide) rfl ?_
      refine s_aload_n dX12_told_39 rfl ?_
      refine s_gR dX12_told_40 fX12_7 fun v5 => ?_
      refine s_bipush (v := 16) dX12_told_43 (by decide) ?_
      refine s_iconst (v := 3) dX12_told_45 (by decide) ?_
      refine s_iload_n dX12_told_46 rfl ?_
      refine s_imul dX12_told_47 ?_
      refine s_iadd dX12_told_48 ?_
      refine s_iconst (v := 2) dX12_told_49 (by decide) ?_
      refine s_iadd dX12_told_50 ?_
      refine s_iload_n dX12_told_51 rfl ?_
      refine s_sI dX12_told_52 ?_
      refine s_iload_n dX12_told_53 rfl ?_
      exact s_ireturn dX12_told_54 rfl rfl
theorem CX12_told {l : Launch} {g : qG} {d : Nat} (x0 : Nat) (x1 : Int32) (x2 : Int32) : qCt l g mX12_told (d + 2) 0 0 cvI [.ref x0, .int x1, .int x2] (FX12_told x0 x1 x2) := s_of pn_X12 (Nat.le_of_ble_eq_true rfl) fun n => FX12_told_ok x0 x1 x2
def UX12_bare_22 (x0 : Nat) : qP Int32 :=
qb (qcl 12 x0) fun _ => qb (FX12_bad x0) fun v1 =>
qr v1
set_option maxRecDepth 100000 in
set_option maxHeartbeats 4000000 in
theorem UX12_bare_22_ok {l : Launch} {g : qG} {d n : Nat} (x0 : Nat) : qS l g mX12_bare (d + 2) n 0 0 0 0 cvI 22 [(0, .ref x0)] [] (UX12_bare_22 x0) := by
  unfold UX12_bare_22
  refine s_aload_n dX12_bare_22 rfl ?_
  refine s_virtI (as := []) (rest := []) dX12_bare_23 vX12_74 (CX12_bad _) (Nat.le_of_ble_eq_true rfl) ⟨Nat.le_refl _, Nat.le_refl _⟩ fun v1 => ?_
  exact s_ireturn dX12_bare_26 rfl rfl
def UX12_bare_103 (R : Nat → Int32 → Int32 → Int32 → Int32 → Int32 → Int32 → Int32 → qP Int32) (K123 : Nat → Int32 → Int32 → Int32 → Int32 → Int32 → Int32 → qP Int32) (x0 : Nat) (x1 : Int32) (x2 : Int32) (x3 : Int32) (x4 : Int32) (x5 : Int32) (x7 : Int32) (x8 : Int32) (s0 : Int32) : qP Int32 :=
if s0 = 0 then (
R x0 x1 x2 x3 x4 x5 s0 (x7 + 1)) else (
qb (qcl 12 x0) fun _ => qb (FX12_goes x0 x8) fun v1 =>
R x0 x1 x2 x3 x4 x5 s0 (x7 + 1))
set_option maxRecDepth 100000 in
set_option maxHeartbeats 4000000 in
theorem UX12_bare_103_ok {l : Launch} {g : qG} {d n : Nat} {R : Nat → Int32 → Int32 → Int32 → Int32 → Int32 → Int32 → Int32 → qP Int32} (hR : ∀ (x0 : Nat) (x1 : Int32) (x2 : Int32) (x3 : Int32) (x4 : Int32) (x5 : Int32) (x6 : Int32) (x7 : Int32), qS l g mX12_bare (d + 2) n 0 0 0 0 cvI 55 [(0, .ref x0), (1, .int x1), (2, .int x2), (3, .int x3), (4, .int x4), (5, .int x5), (6, .int x6), (7, .int x7)] [] (R x0 x1 x2 x3 x4 x5 x6 x7)) {K123 : Nat → Int32 → Int32 → Int32 → Int32 → Int32 → Int32 → qP Int32} (hK123 : ∀ (x0 : Nat) (x1 : Int32) (x2 : Int32) (x3 : Int32) (x4 : Int32) (x5 : Int32) (x6 : Int32), qS l g mX12_bare (d + 2) n 0 0 0 0 cvI 123 [(0, .ref x0), (1, .int x1), (2, .int x2), (3, .int x3), (4, .int x4), (5, .int x5), (6, .int x6)] [] (K123 x0 x1 x2 x3 x4 x5 x6)) (x0 : Nat) (x1 : Int32) (x2 : Int32) (x3 : Int32) (x4 : Int32) (x5 : Int32) (x7 : Int32) (x8 : Int32) (s0 : Int32) : qS l g mX12_bare (d + 2) n 0 0 0 0 cvI 103 [(0, .ref x0), (1, .int x1), (2, .int x2), (3, .int x3), (4, .int x4), (5, .int x5), (7, .int x7), (8, .int x8)] [.int s0] (UX12_bare_103 R K123 x0 x1 x2 x3 x4 x5 x7 x8 s0) := by
  unfold UX12_bare_103
  refine s_istore (lv' := [(6, .int s0), (0, .ref x0), (1, .int x1), (2, .int x2), (3, .int x3), (4, .int x4), (5, .int x5), (7, .int x7), (8, .int x8)]) dX12_bare_103 (by decide) rfl ?_
  refine s_iload dX12_bare_105 rfl ?_
  refine s_if_eq (tgt := 117) dX12_bare_107 (by decide) (fun c1 => ?_) (fun c1 => ?_)
  · refine s_iinc (lv' := [(7, .int (x7 + 1)), (6, .int s0), (0, .ref x0), (1, .int x1), (2, .int x2), (3, .int x3), (4, .int x4), (5, .int x5), (8, .int x8)]) dX12_bare_117 rfl (by decide) rfl ?_
    refine s_goto (tgt := 55) dX12_bare_120 (by decide) ?_
    refine s_locals [2, 3, 4, 5, 6, 7, 1, 0] rfl ?_
    exact hR x0 x1 x2 x3 x4 x5 s0 (x7 + 1)
  · refine s_aload_n dX12_bare_110 rfl ?_
    refine s_iload dX12_bare_111 rfl ?_
    refine s_virtI (as := [.int x8]) (rest := []) dX12_bare_113 vX12_102 (CX12_goes _ _) (Nat.le_of_ble_eq_true rfl) ⟨Nat.le_refl _, Nat.le_refl _⟩ fun v1 => ?_
    refine s_pop dX12_bare_116 rfl ?_
    refine s_iinc (lv' := [(7, .int (x7 + 1)), (6, .int s0), (0, .ref x0), (1, .int x1), (2, .int x2), (3, .int x3), (4, .int x4), (5, .int x5), (8, .int x8)]) dX12_bare_117 rfl (by decide) rfl ?_
    refine s_goto (tgt := 55) dX12_bare_120 (by decide) ?_
    refine s_locals [2, 3, 4, 5, 6, 7, 1, 0] rfl ?_
    exact hR x0 x1 x2 x3 x4 x5 s0 (x7 + 1)
def UX12_bare_55 (R : Nat → Int32 → Int32 → Int32 → Int32 → Int32 → Int32 → Int32 → qP Int32) (K123 : Nat → Int32 → Int32 → Int32 → Int32 → Int32 → Int32 → qP Int32) (x0 : Nat) (x1 : Int32) (x2 : Int32) (x3 : Int32) (x4 : Int32) (x5 : Int32) (x6 : Int32) (x7 : Int32) : qP Int32 :=
if x1 ≤ x7 then (
K123 x0 x1 x2 x3 x4 x5 x6) else (
if x6 = 0 then (
K123 x0 x1 x2 x3 x4 x5 x6) else (
qb (qcl 12 x0) fun _ => qb (FX12_isPlot x0 ((x5 >>> (((3 : Int32) * ((x1 - (1 : Int32)) - x7)) &&& 31)) &&& (7 : Int32))) fun v1 =>
if v1 = 0 then (
if ((x5 >>> (((3 : Int32) * ((x1 - (1 : Int32)) - x7)) &&& 31)) &&& (7 : Int32)) = (7 : Int32) then (
UX12_bare_103 R K123 x0 x1 x2 x3 x4 x5 x7 ((x5 >>> (((3 : Int32) * ((x1 - (1 : Int32)) - x7)) &&& 31)) &&& (7 : Int32)) (1 : Int32)) else (
UX12_bare_103 R K123 x0 x1 x2 x3 x4 x5 x7 ((x5 >>> (((3 : Int32) * ((x1 - (1 : Int32)) - x7)) &&& 31)) &&& (7 : Int32)) (0 : Int32))) else (
UX12_bare_103 R K123 x0 x1 x2 x3 x4 x5 x7 ((x5 >>> (((3 : Int32) * ((x1 - (1 : Int32)) - x7)) &&& 31)) &&& (7 : Int32)) (1 : Int32))))
set_option maxRecDepth 100000 in
set_option maxHeartbeats 4000000 in
theorem UX12_bare_55_ok {l : Launch} {g : qG} {d n : Nat} {R : Nat → Int32 → Int32 → Int32 → Int32 → Int32 → Int32 → Int32 → qP Int32} (hR : ∀ (x0 : Nat) (x1 : Int32) (x2 : Int32) (x3 : Int32) (x4 : Int32) (x5 : Int32) (x6 : Int32) (x7 : Int32), qS l g mX12_bare (d + 2) n 0 0 0 0 cvI 55 [(0, .ref x0), (1, .int x1), (2, .int x2), (3, .int x3), (4, .int x4), (5, .int x5), (6, .int x6), (7, .int x7)] [] (R x0 x1 x2 x3 x4 x5 x6 x7)) {K123 : Nat → Int32 → Int32 → Int32 → Int32 → Int32 → Int32 → qP Int32} (hK123 : ∀ (x0 : Nat) (x1 : Int32) (x2 : Int32) (x3 : Int32) (x4 : Int32) (x5 : Int32) (x6 : Int32), qS l g mX12_bare (d + 2) n 0 0 0 0 cvI 123 [(0, .ref x0), (1, .int x1), (2, .int x2), (3, .int x3), (4, .int x4), (5, .int x5), (6, .int x6)] [] (K123 x0 x1 x2 x3 x4 x5 x6)) (x0 : Nat) (x1 : Int32) (x2 : Int32) (x3 : Int32) (x4 : Int32) (x5 : Int32) (x6 : Int32) (x7 : Int32) : qS l g mX12_bare (d + 2) n 0 0 0 0 cvI 55 [(0, .ref x0), (1, .int x1), (2, .int x2), (3, .int x3), (4, .int x4), (5, .int x5), (6, .int x6), (7, .int x7)] [] (UX12_bare_55 R K123 x0 x1 x2 x3 x4 x5 x6 x7) := by
  unfold UX12_bare_55
  refine s_iload dX12_bare_55 rfl ?_
  refine s_iload_n dX12_bare_57 rfl ?_
  refine s_icmp_ge (tgt := 123) dX12_bare_58 (by decide) (fun c1 => ?_) (fun c1 => ?_)
  · refine s_locals [0, 1, 2, 3, 4, 5, 6] rfl ?_
    exact hK123 x0 x1 x2 x3 x4 x5 x6
  · refine s_iload dX12_bare_61 rfl ?_
    refine s_if_eq (tgt := 123) dX12_bare_63 (by decide) (fun c2 => ?_) (fun c2 => ?_)
    · refine s_locals [0, 1, 2, 3, 4, 5, 6] rfl ?_
      exact hK123 x0 x1 x2 x3 x4 x5 x6
    · refine s_iload dX12_bare_66 rfl ?_
      refine s_iconst (v := 3) dX12_bare_68 (by decide) ?_
      refine s_iload_n dX12_bare_69 rfl ?_
      refine s_iconst (v := 1) dX12_bare_70 (by decide) ?_
      refine s_isub dX12_bare_71 ?_
      refine s_iload dX12_bare_72 rfl ?_
      refine s_isub dX12_bare_74 ?_
      refine s_imul dX12_bare_75 ?_
      refine s_ishr dX12_bare_76 ?_
      refine s_bipush (v := 7) dX12_bare_77 (by decide) ?_
      refine s_iand dX12_bare_79 ?_
      refine s_istore (lv' := [(8, .int ((x5 >>> (((3 : Int32) * ((x1 - (1 : Int32)) - x7)) &&& 31)) &&& (7 : Int32))), (0, .ref x0), (1, .int x1), (2, .int x2), (3, .int x3), (4, .int x4), (5, .int x5), (6, .int x6), (7, .int x7)]) dX12_bare_80 (by decide) rfl ?_
      refine s_aload_n dX12_bare_82 rfl ?_
      refine s_iload dX12_bare_83 rfl ?_
      refine s_virtI (as := [.int ((x5 >>> (((3 : Int32) * ((x1 - (1 : Int32)) - x7)) &&& 31)) &&& (7 : Int32))]) (rest := []) dX12_bare_85 vX12_63 (CX12_isPlot _ _) (Nat.le_of_ble_eq_true rfl) ⟨Nat.le_refl _, Nat.le_refl _⟩ fun v1 => ?_
      refine s_if_ne (tgt := 98) dX12_bare_88 (by decide) (fun c3 => ?_) (fun c3 => ?_)
      · refine s_iload dX12_bare_91 rfl ?_
        refine s_bipush (v := 7) dX12_bare_93 (by decide) ?_
        refine s_icmp_ne (tgt := 102) dX12_bare_95 (by decide) (fun c4 => ?_) (fun c4 => ?_)
        · refine s_iconst (v := 1) dX12_bare_98 (by decide) ?_
          refine s_goto (tgt := 103) dX12_bare_99 (by decide) ?_
          refine s_locals [1, 2, 3, 4, 5, 6, 8, 0] rfl ?_
          exact UX12_bare_103_ok hR hK123 x0 x1 x2 x3 x4 x5 x7 ((x5 >>> (((3 : Int32) * ((x1 - (1 : Int32)) - x7)) &&& 31)) &&& (7 : Int32)) (1 : Int32)
        · refine s_iconst (v := 0) dX12_bare_102 (by decide) ?_
          refine s_locals [1, 2, 3, 4, 5, 6, 8, 0] rfl ?_
          exact UX12_bare_103_ok hR hK123 x0 x1 x2 x3 x4 x5 x7 ((x5 >>> (((3 : Int32) * ((x1 - (1 : Int32)) - x7)) &&& 31)) &&& (7 : Int32)) (0 : Int32)
      · refine s_iconst (v := 1) dX12_bare_98 (by decide) ?_
        refine s_goto (tgt := 103) dX12_bare_99 (by decide) ?_
        refine s_locals [1, 2, 3, 4, 5, 6, 8, 0] rfl ?_
        exact UX12_bare_103_ok hR hK123 x0 x1 x2 x3 x4 x5 x7 ((x5 >>> (((3 : Int32) * ((x1 - (1 : Int32)) - x7)) &&& 31)) &&& (7 : Int32)) (1 : Int32)
def WX12_bare_55 (K123 : Nat → Int32 → Int32 → Int32 → Int32 → Int32 → Int32 → qP Int32) : Nat → Nat → Int32 → Int32 → Int32 → Int32 → Int32 → Int32 → Int32 → qP Int32
  | 0 => fun _ _ _ _ _ _ _ _ => qfail
  | N + 1 => fun x0 x1 x2 x3 x4 x5 x6 x7 => UX12_bare_55 (WX12_bare_55 K123 N) K123 x0 x1 x2 x3 x4 x5 x6 x7
theorem WX12_bare_55_ok {l : Launch} {g : qG} {d n : Nat} {K123 : Nat → Int32 → Int32 → Int32 → Int32 → Int32 → Int32 → qP Int32} (hK123 : ∀ (x0 : Nat) (x1 : Int32) (x2 : Int32) (x3 : Int32) (x4 : Int32) (x5 : Int32) (x6 : Int32), qS l g mX12_bare (d + 2) n 0 0 0 0 cvI 123 [(0, .ref x0), (1, .int x1), (2, .int x2), (3, .int x3), (4, .int x4), (5, .int x5), (6, .int x6)] [] (K123 x0 x1 x2 x3 x4 x5 x6)) : ∀ (N : Nat) (x0 : Nat) (x1 : Int32) (x2 : Int32) (x3 : Int32) (x4 : Int32) (x5 : Int32) (x6 : Int32) (x7 : Int32), qS l g mX12_bare (d + 2) n 0 0 0 0 cvI 55 [(0, .ref x0), (1, .int x1), (2, .int x2), (3, .int x3), (4, .int x4), (5, .int x5), (6, .int x6), (7, .int x7)] [] (WX12_bare_55 K123 N x0 x1 x2 x3 x4 x5 x6 x7) := by
  intro N
  induction N with
  | zero => intro x0 x1 x2 x3 x4 x5 x6 x7; exact s_fail
  | succ N ih => intro x0 x1 x2 x3 x4 x5 x6 x7; exact UX12_bare_55_ok ih hK123 x0 x1 x2 x3 x4 x5 x6 x7
def UX12_bare_172 (R : Nat → Int32 → Int32 → Int32 → Int32 → Int32 → Int32 → Int32 → qP Int32) (K181 : Nat → Int32 → Int32 → Int32 → Int32 → Int32 → Int32 → qP Int32) (x0 : Nat) (x1 : Int32) (x2 : Int32) (x3 : Int32) (x4 : Int32) (x5 : Int32) (x7 : Int32) : qP Int32 :=
R x0 x1 x2 x3 x4 x5 (0 : Int32) (x7 + 1)
set_option maxRecDepth 100000 in
set_option maxHeartbeats 4000000 in
theorem UX12_bare_172_ok {l : Launch} {g : qG} {d n : Nat} {R : Nat → Int32 → Int32 → Int32 → Int32 → Int32 → Int32 → Int32 → qP Int32} (hR : ∀ (x0 : Nat) (x1 : Int32) (x2 : Int32) (x3 : Int32) (x4 : Int32) (x5 : Int32) (x6 : Int32) (x7 : Int32), qS l g mX12_bare (d + 2) n 0 0 0 0 cvI 126 [(0, .ref x0), (1, .int x1), (2, .int x2), (3, .int x3), (4, .int x4), (5, .int x5), (6, .int x6), (7, .int x7)] [] (R x0 x1 x2 x3 x4 x5 x6 x7)) {K181 : Nat → Int32 → Int32 → Int32 → Int32 → Int32 → Int32 → qP Int32} (hK181 : ∀ (x0 : Nat) (x1 : Int32) (x2 : Int32) (x3 : Int32) (x4 : Int32) (x5 : Int32) (x6 : Int32), qS l g mX12_bare (d + 2) n 0 0 0 0 cvI 181 [(0, .ref x0), (1, .int x1), (2, .int x2), (3, .int x3), (4, .int x4), (5, .int x5), (6, .int x6)] [] (K181 x0 x1 x2 x3 x4 x5 x6)) (x0 : Nat) (x1 : Int32) (x2 : Int32) (x3 : Int32) (x4 : Int32) (x5 : Int32) (x7 : Int32) : qS l g mX12_bare (d + 2) n 0 0 0 0 cvI 172 [(0, .ref x0), (1, .int x1), (2, .int x2), (3, .int x3), (4, .int x4), (5, .int x5), (7, .int x7)] [] (UX12_bare_172 R K181 x0 x1 x2 x3 x4 x5 x7) := by
  unfold UX12_bare_172
  refine s_iconst (v := 0) dX12_bare_172 (by decide) ?_
  refine s_istore (lv' := [(6, .int (0 : Int32)), (0, .ref x0), (1, .int x1), (2, .int x2), (3, .int x3), (4, .int x4), (5, .int x5), (7, .int x7)]) dX12_bare_173 (by decide) rfl ?_
  refine s_iinc (lv' := [(7, .int (x7 + 1)), (6, .int (0 : Int32)), (0, .ref x0), (1, .int x1), (2, .int x2), (3, .int x3), (4, .int x4), (5, .int x5)]) dX12_bare_175 rfl (by decide) rfl ?_
  refine s_goto (tgt := 126) dX12_bare_178 (by decide) ?_
  refine s_locals [2, 3, 4, 5, 6, 7, 1, 0] rfl ?_
  exact hR x0 x1 x2 x3 x4 x5 (0 : Int32) (x7 + 1)
def UX12_bare_126 (R : Nat → Int32 → Int32 → Int32 → Int32 → Int32 → Int32 → Int32 → qP Int32) (K181 : Nat → Int32 → Int32 → Int32 → Int32 → Int32 → Int32 → qP Int32) (x0 : Nat) (x1 : Int32) (x2 : Int32) (x3 : Int32) (x4 : Int32) (x5 : Int32) (x6 : Int32) (x7 : Int32) : qP Int32 :=
qb (gR 12 x0 0) fun v1 =>
qb (aI v1 (0 : Int32)) fun v2 =>
if v2 ≤ x7 then (
K181 x0 x1 x2 x3 x4 x5 x6) else (
if x6 = 0 then (
UX12_bare_172 R K181 x0 x1 x2 x3 x4 x5 x7) else (
qb (gR 12 x0 8) fun v3 =>
qb (aI v3 ((3 : Int32) + x7)) fun v4 =>
qb (gR 12 x0 0) fun v5 =>
qb (aI v5 (((16 : Int32) + ((3 : Int32) * x7)) + (2 : Int32))) fun v6 =>
if v4 = v6 then (
R x0 x1 x2 x3 x4 x5 (1 : Int32) (x7 + 1)) else (
UX12_bare_172 R K181 x0 x1 x2 x3 x4 x5 x7)))
set_option maxRecDepth 100000 in
set_option maxHeartbeats 4000000 in
theorem UX12_bare_126_ok {l : Launch} {g : qG} {d n : Nat} {R : Nat → Int32 → Int32 → Int32 → Int32 → Int32 → Int32 → Int32 → qP Int32} (hR : ∀ (x0 : Nat) (x1 : Int32) (x2 : Int32) (x3 : Int32) (x4 : Int32) (x5 : Int32) (x6 : Int32) (x7 : Int32), qS l g mX12_bare (d + 2) n 0 0 0 0 cvI 126 [(0, .ref x0), (1, .int x1), (2, .int x2), (3, .int x3), (4, .int x4), (5, .int x5), (6, .int x6), (7, .int x7)] [] (R x0 x1 x2 x3 x4 x5 x6 x7)) {K181 : Nat → Int32 → Int32 → Int32 → Int32 → Int32 → Int32 → qP Int32} (hK181 : ∀ (x0 : Nat) (x1 : Int32) (x2 : Int32) (x3 : Int32) (x4 : Int32) (x5 : Int32) (x6 : Int32), qS l g mX12_bare (d + 2) n 0 0 0 0 cvI 181 [(0, .ref x0), (1, .int x1), (2, .int x2), (3, .int x3), (4, .int x4), (5, .int x5), (6, .int x6)] [] (K181 x0 x1 x2 x3 x4 x5 x6)) (x0 : Nat) (x1 : Int32) (x2 : Int32) (x3 : Int32) (x4 : Int32) (x5 : Int32) (x6 : Int32) (x7 : Int32) : qS l g mX12_bare (d + 2) n 0 0 0 0 cvI 126 [(0, .ref x0), (1, .int x1), (2, .int x2), (3, .int x3), (4, .int x4), (5, .int x5), (6, .int x6), (7, .int x7)] [] (UX12_bare_126 R K181 x0 x1 x2 x3 x4 x5 x6 x7) := by
  unfold UX12_bare_126
  refine s_iload dX12_bare_126 rfl ?_
  refine s_aload_n dX12_bare_128 rfl ?_
  refine s_gR dX12_bare_129 fX12_7 fun v1 => ?_
  refine s_iconst (v := 0) dX12_bare_132 (by decide) ?_
  refine s_aI dX12_bare_133 fun v2 => ?_
  refine s_icmp_ge (tgt := 181) dX12_bare_134 (by decide) (fun c1 => ?_) (fun c1 => ?_)
  · refine s_locals [0, 1, 2, 3, 4, 5, 6] rfl ?_
    exact hK181 x0 x1 x2 x3 x4 x5 x6
  · refine s_iload dX12_bare_137 rfl ?_
    refine s_if_eq (tgt := 172) dX12_bare_139 (by decide) (fun c2 => ?_) (fun c2 => ?_)
    · refine s_locals [0, 1, 2, 3, 4, 5, 7] rfl ?_
      exact UX12_bare_172_ok hR hK181 x0 x1 x2 x3 x4 x5 x7
    · refine s_aload_n dX12_bare_142 rfl ?_
      refine s_gR dX12_bare_143 fX12_26 fun v3 => ?_
      refine s_iconst (v := 3) dX12_bare_146 (by decide) ?_
      refine s_iload dX12_bare_147 rfl ?_
      refine s_iadd dX12_bare_149 ?_
      refine s_aI dX12_bare_150 fun v4 => ?_
      refine s_aload_n dX12_bare_151 rfl ?_
      refine s_gR dX12_bare_152 fX12_7 fun v5 => ?_
      refine s_bipush (v := 16) dX12_bare_155 (by decide) ?_
      refine s_iconst (v := 3) dX12_bare_157 (by decide) ?_
      refine s_iload dX12_bare_158 rfl ?_
      refine s_imul dX12_bare_160 ?_
      refine s_iadd dX12_bare_161 ?_
      refine s_iconst (v := 2) dX12_bare_162 (by decide) ?_
      refine s_iadd dX12_bare_163 ?_
      refine s_aI dX12_bare_164 fun v6 => ?_
      refine s_icmp_ne (tgt := 172) dX12_bare_165 (by decide) (fun c3 => ?_) (fun c3 => ?_)
      · refine s_iconst (v := 1) dX12_bare_168 (by decide) ?_
        refine s_goto (tgt := 173) dX12_bare_169 (by decide) ?_
        refine s_istore (lv' := [(6, .int (1 : Int32)), (0, .ref x0), (1, .int x1), (2, .int x2), (3, .int x3), (4, .int x4), (5, .int x5), (7, .int x7)]) dX12_bare_173 (by decide) rfl ?_
        refine s_iinc (lv' := [(7, .int (x7 + 1)), (6, .int (1 : Int32)), (0, .ref x0), (1, .int x1), (2, .int x2), (3, .int x3), (4, .int x4), (5, .int x5)]) dX12_bare_175 rfl (by decide) rfl ?_
        refine s_goto (tgt := 126) dX12_bare_178 (by decide) ?_
        refine s_locals [2, 3, 4, 5, 6, 7, 1, 0] rfl ?_
        exact hR x0 x1 x2 x3 x4 x5 (1 : Int32) (x7 + 1)
      · refine s_locals [0, 1, 2, 3, 4, 5, 7] rfl ?_
        exact UX12_bare_172_ok hR hK181 x0 x1 x2 x3 x4 x5 x7
def WX12_bare_126 (K181 : Nat → Int32 → Int32 → Int32 → Int32 → Int32 → Int32 → qP Int32) : Nat → Nat → Int32 → Int32 → Int32 → Int32 → Int32 → Int32 → Int32 → qP Int32
  | 0 => fun _ _ _ _ _ _ _ _ => qfail
  | N + 1 => fun x0 x1 x2 x3 x4 x5 x6 x7 => UX12_bare_126 (WX12_bare_126 K181 N) K181 x0 x1 x2 x3 x4 x5 x6 x7
theorem WX12_bare_126_ok {l : Launch} {g : qG} {d n : Nat} {K181 : Nat → Int32 → Int32 → Int32 → Int32 → Int32 → Int32 → qP Int32} (hK181 : ∀ (x0 : Nat) (x1 : Int32) (x2 : Int32) (x3 : Int32) (x4 : Int32) (x5 : Int32) (x6 : Int32), qS l g mX12_bare (d + 2) n 0 0 0 0 cvI 181 [(0, .ref x0), (1, .int x1), (2, .int x2), (3, .int x3), (4, .int x4), (5, .int x5), (6, .int x6)] [] (K181 x0 x1 x2 x3 x4 x5 x6)) : ∀ (N : Nat) (x0 : Nat) (x1 : Int32) (x2 : Int32) (x3 : Int32) (x4 : Int32) (x5 : Int32) (x6 : Int32) (x7 : Int32), qS l g mX12_bare (d + 2) n 0 0 0 0 cvI 126 [(0, .ref x0), (1, .int x1), (2, .int x2), (3, .int x3), (4, .int x4), (5, .int x5), (6, .int x6), (7, .int x7)] [] (WX12_bare_126 K181 N x0 x1 x2 x3 x4 x5 x6 x7) := by
  intro N
  induction N with
  | zero => intro x0 x1 x2 x3 x4 x5 x6 x7; exact s_fail
  | succ N ih => intro x0 x1 x2 x3 x4 x5 x6 x7; exact UX12_bare_126_ok ih hK181 x0 x1 x2 x3 x4 x5 x6 x7
def UX12_bare_210 (R : Nat → Int32 → Int32 → Int32 → Int32 → Int32 → qP Int32) (K220 : Nat → Int32 → Int32 → Int32 → qP Int32) (x0 : Nat) (x1 : Int32) (x2 : Int32) (x3 : Int32) (x4 : Int32) (x5 : Int32) : qP Int32 :=
R x0 x1 x2 x3 x4 (x5 + 1)
set_option maxRecDepth 100000 in
set_option maxHeartbeats 4000000 in
theorem UX12_bare_210_ok {l : Launch} {g : qG} {d n : Nat} {R : Nat → Int32 → Int32 → Int32 → Int32 → Int32 → qP Int32} (hR : ∀ (x0 : Nat) (x1 : Int32) (x2 : Int32) (x3 : Int32) (x4 : Int32) (x5 : Int32), qS l g mX12_bare (d + 2) n 0 0 0 0 cvI 35 [(0, .ref x0), (1, .int x1), (2, .int x2), (3, .int x3), (4, .int x4), (5, .int x5)] [] (R x0 x1 x2 x3 x4 x5)) {K220 : Nat → Int32 → Int32 → Int32 → qP Int32} (hK220 : ∀ (x0 : Nat) (x2 : Int32) (x3 : Int32) (x4 : Int32), qS l g mX12_bare (d + 2) n 0 0 0 0 cvI 220 [(0, .ref x0), (2, .int x2), (3, .int x3), (4, .int x4)] [] (K220 x0 x2 x3 x4)) (x0 : Nat) (x1 : Int32) (x2 : Int32) (x3 : Int32) (x4 : Int32) (x5 : Int32) : qS l g mX12_bare (d + 2) n 0 0 0 0 cvI 210 [(0, .ref x0), (1, .int x1), (2, .int x2), (3, .int x3), (4, .int x4), (5, .int x5)] [] (UX12_bare_210 R K220 x0 x1 x2 x3 x4 x5) := by
  unfold UX12_bare_210
  refine s_iload dX12_bare_210 rfl ?_
  refine s_istore (lv' := [(4, .int x4), (0, .ref x0), (1, .int x1), (2, .int x2), (3, .int x3), (5, .int x5)]) dX12_bare_212 (by decide) rfl ?_
  refine s_iinc (lv' := [(5, .int (x5 + 1)), (4, .int x4), (0, .ref x0), (1, .int x1), (2, .int x2), (3, .int x3)]) dX12_bare_214 rfl (by decide) rfl ?_
  refine s_goto (tgt := 35) dX12_bare_217 (by decide) ?_
  refine s_locals [2, 3, 4, 5, 1, 0] rfl ?_
  exact hR x0 x1 x2 x3 x4 (x5 + 1)
def UX12_bare_192 (R : Nat → Int32 → Int32 → Int32 → Int32 → Int32 → qP Int32) (K220 : Nat → Int32 → Int32 → Int32 → qP Int32) (x0 : Nat) (x1 : Int32) (x2 : Int32) (x4 : Int32) (x5 : Int32) (x6 : Int32) (s0 : Int32) (s1 : Int32) : qP Int32 :=
if x6 = 0 then (
UX12_bare_210 R K220 x0 x1 x2 (s0 + s1) x4 x5) else (
if x4 = (-1 : Int32) then (
R x0 x1 x2 (s0 + s1) x5 (x5 + 1)) else (
UX12_bare_210 R K220 x0 x1 x2 (s0 + s1) x4 x5))
set_option maxRecDepth 100000 in
set_option maxHeartbeats 4000000 in
theorem UX12_bare_192_ok {l : Launch} {g : qG} {d n : Nat} {R : Nat → Int32 → Int32 → Int32 → Int32 → Int32 → qP Int32} (hR : ∀ (x0 : Nat) (x1 : Int32) (x2 : Int32) (x3 : Int32) (x4 : Int32) (x5 : Int32), qS l g mX12_bare (d + 2) n 0 0 0 0 cvI 35 [(0, .ref x0), (1, .int x1), (2, .int x2), (3, .int x3), (4, .int x4), (5, .int x5)] [] (R x0 x1 x2 x3 x4 x5)) {K220 : Nat → Int32 → Int32 → Int32 → qP Int32} (hK220 : ∀ (x0 : Nat) (x2 : Int32) (x3 : Int32) (x4 : Int32), qS l g mX12_bare (d + 2) n 0 0 0 0 cvI 220 [(0, .ref x0), (2, .int x2), (3, .int x3), (4, .int x4)] [] (K220 x0 x2 x3 x4)) (x0 : Nat) (x1 : Int32) (x2 : Int32) (x4 : Int32) (x5 : Int32) (x6 : Int32) (s0 : Int32) (s1 : Int32) : qS l g mX12_bare (d + 2) n 0 0 0 0 cvI 192 [(0, .ref x0), (1, .int x1), (2, .int x2), (4, .int x4), (5, .int x5), (6, .int x6)] [.int s1, .int s0] (UX12_bare_192 R K220 x0 x1 x2 x4 x5 x6 s0 s1) := by
  unfold UX12_bare_192
  refine s_iadd dX12_bare_192 ?_
  refine s_istore_n (lv' := [(3, .int (s0 + s1)), (0, .ref x0), (1, .int x1), (2, .int x2), (4, .int x4), (5, .int x5), (6, .int x6)]) dX12_bare_193 (by decide) rfl ?_
  refine s_iload dX12_bare_194 rfl ?_
  refine s_if_eq (tgt := 210) dX12_bare_196 (by decide) (fun c1 => ?_) (fun c1 => ?_)
  · refine s_locals [1, 2, 3, 0, 4, 5] rfl ?_
    exact UX12_bare_210_ok hR hK220 x0 x1 x2 (s0 + s1) x4 x5
  · refine s_iload dX12_bare_199 rfl ?_
    refine s_iconst (v := -1) dX12_bare_201 (by decide) ?_
    refine s_icmp_ne (tgt := 210) dX12_bare_202 (by decide) (fun c2 => ?_) (fun c2 => ?_)
    · refine s_iload dX12_bare_205 rfl ?_
      refine s_goto (tgt := 212) dX12_bare_207 (by decide) ?_
      refine s_istore (lv' := [(4, .int x5), (3, .int (s0 + s1)), (0, .ref x0), (1, .int x1), (2, .int x2), (5, .int x5), (6, .int x6)]) dX12_bare_212 (by decide) rfl ?_
      refine s_iinc (lv' := [(5, .int (x5 + 1)), (4, .int x5), (3, .int (s0 + s1)), (0, .ref x0), (1, .int x1), (2, .int x2), (6, .int x6)]) dX12_bare_214 rfl (by decide) rfl ?_
      refine s_goto (tgt := 35) dX12_bare_217 (by decide) ?_
      refine s_locals [3, 4, 5, 2, 1, 0] rfl ?_
      exact hR x0 x1 x2 (s0 + s1) x5 (x5 + 1)
    · refine s_locals [1, 2, 3, 0, 4, 5] rfl ?_
      exact UX12_bare_210_ok hR hK220 x0 x1 x2 (s0 + s1) x4 x5
def UX12_bare_181 (R : Nat → Int32 → Int32 → Int32 → Int32 → Int32 → qP Int32) (K220 : Nat → Int32 → Int32 → Int32 → qP Int32) (x0 : Nat) (x1 : Int32) (x2 : Int32) (x3 : Int32) (x4 : Int32) (x5 : Int32) (x6 : Int32) : qP Int32 :=
if x6 = 0 then (
UX12_bare_192 R K220 x0 x1 x2 x4 x5 x6 x3 (0 : Int32)) else (
UX12_bare_192 R K220 x0 x1 x2 x4 x5 x6 x3 (1 : Int32))
set_option maxRecDepth 100000 in
set_option maxHeartbeats 4000000 in
theorem UX12_bare_181_ok {l : Launch} {g : qG} {d n : Nat} {R : Nat → Int32 → Int32 → Int32 → Int32 → Int32 → qP Int32} (hR : ∀ (x0 : Nat) (x1 : Int32) (x2 : Int32) (x3 : Int32) (x4 : Int32) (x5 : Int32), qS l g mX12_bare (d + 2) n 0 0 0 0 cvI 35 [(0, .ref x0), (1, .int x1), (2, .int x2), (3, .int x3), (4, .int x4), (5, .int x5)] [] (R x0 x1 x2 x3 x4 x5)) {K220 : Nat → Int32 → Int32 → Int32 → qP Int32} (hK220 : ∀ (x0 : Nat) (x2 : Int32) (x3 : Int32) (x4 : Int32), qS l g mX12_bare (d + 2) n 0 0 0 0 cvI 220 [(0, .ref x0), (2, .int x2), (3, .int x3), (4, .int x4)] [] (K220 x0 x2 x3 x4)) (x0 : Nat) (x1 : Int32) (x2 : Int32) (x3 : Int32) (x4 : Int32) (x5 : Int32) (x6 : Int32) : qS l g mX12_bare (d + 2) n 0 0 0 0 cvI 181 [(0, .ref x0), (1, .int x1), (2, .int x2), (3, .int x3), (4, .int x4), (5, .int x5), (6, .int x6)] [] (UX12_bare_181 R K220 x0 x1 x2 x3 x4 x5 x6) := by
  unfold UX12_bare_181
  refine s_iload_n dX12_bare_181 rfl ?_
  refine s_iload dX12_bare_182 rfl ?_
  refine s_if_eq (tgt := 191) dX12_bare_184 (by decide) (fun c1 => ?_) (fun c1 => ?_)
  · refine s_iconst (v := 0) dX12_bare_191 (by decide) ?_
    refine s_locals [0, 1, 2, 4, 5, 6] rfl ?_
    exact UX12_bare_192_ok hR hK220 x0 x1 x2 x4 x5 x6 x3 (0 : Int32)
  · refine s_iconst (v := 1) dX12_bare_187 (by decide) ?_
    refine s_goto (tgt := 192) dX12_bare_188 (by decide) ?_
    refine s_locals [0, 1, 2, 4, 5, 6] rfl ?_
    exact UX12_bare_192_ok hR hK220 x0 x1 x2 x4 x5 x6 x3 (1 : Int32)
def UX12_bare_123 (R : Nat → Int32 → Int32 → Int32 → Int32 → Int32 → qP Int32) (K220 : Nat → Int32 → Int32 → Int32 → qP Int32) (x0 : Nat) (x1 : Int32) (x2 : Int32) (x3 : Int32) (x4 : Int32) (x5 : Int32) (x6 : Int32) : qP Int32 :=
WX12_bare_126 (UX12_bare_181 R K220) 1000000 x0 x1 x2 x3 x4 x5 x6 (0 : Int32)
set_option maxRecDepth 100000 in
set_option maxHeartbeats 4000000 in
theorem UX12_bare_123_ok {l : Launch} {g : qG} {d n : Nat} {R : Nat → Int32 → Int32 → Int32 → Int32 → Int32 → qP Int32} (hR : ∀ (x0 : Nat) (x1 : Int32) (x2 : Int32) (x3 : Int32) (x4 : Int32) (x5 : Int32), qS l g mX12_bare (d + 2) n 0 0 0 0 cvI 35 [(0, .ref x0), (1, .int x1), (2, .int x2), (3, .int x3), (4, .int x4), (5, .int x5)] [] (R x0 x1 x2 x3 x4 x5)) {K220 : Nat → Int32 → Int32 → Int32 → qP Int32} (hK220 : ∀ (x0 : Nat) (x2 : Int32) (x3 : Int32) (x4 : Int32), qS l g mX12_bare (d + 2) n 0 0 0 0 cvI 220 [(0, .ref x0), (2, .int x2), (3, .int x3), (4, .int x4)] [] (K220 x0 x2 x3 x4)) (x0 : Nat) (x1 : Int32) (x2 : Int32) (x3 : Int32) (x4 : Int32) (x5 : Int32) (x6 : Int32) : qS l g mX12_bare (d + 2) n 0 0 0 0 cvI 123 [(0, .ref x0), (1, .int x1), (2, .int x2), (3, .int x3), (4, .int x4), (5, .int x5), (6, .int x6)] [] (UX12_bare_123 R K220 x0 x1 x2 x3 x4 x5 x6) := by
  unfold UX12_bare_123
  refine s_iconst (v := 0) dX12_bare_123 (by decide) ?_
  refine s_istore (lv' := [(7, .int (0 : Int32)), (0, .ref x0), (1, .int x1), (2, .int x2), (3, .int x3), (4, .int x4), (5, .int x5), (6, .int x6)]) dX12_bare_124 (by decide) rfl ?_
  refine s_locals [1, 2, 3, 4, 5, 6, 7, 0] rfl ?_
  exact WX12_bare_126_ok (UX12_bare_181_ok hR hK220) 1000000 x0 x1 x2 x3 x4 x5 x6 (0 : Int32)
def UX12_bare_35 (R : Nat → Int32 → Int32 → Int32 → Int32 → Int32 → qP Int32) (K220 : Nat → Int32 → Int32 → Int32 → qP Int32) (x0 : Nat) (x1 : Int32) (x2 : Int32) (x3 : Int32) (x4 : Int32) (x5 : Int32) : qP Int32 :=
if ((1 : Int32) <<< (((3 : Int32) * x1) &&& 31)) ≤ x5 then (
K220 x0 x2 x3 x4) else (
qb (qcl 12 x0) fun _ => qb (FX12_asNow x0) fun v1 =>
WX12_bare_55 (UX12_bare_123 R K220) 1000000 x0 x1 x2 x3 x4 x5 (1 : Int32) (0 : Int32))
set_option maxRecDepth 100000 in
set_option maxHeartbeats 4000000 in
theorem UX12_bare_35_ok {l : Launch} {g : qG} {d n : Nat} {R : Nat → Int32 → Int32 → Int32 → Int32 → Int32 → qP Int32} (hR : ∀ (x0 : Nat) (x1 : Int32) (x2 : Int32) (x3 : Int32) (x4 : Int32) (x5 : Int32), qS l g mX12_bare (d + 2) n 0 0 0 0 cvI 35 [(0, .ref x0), (1, .int x1), (2, .int x2), (3, .int x3), (4, .int x4), (5, .int x5)] [] (R x0 x1 x2 x3 x4 x5)) {K220 : Nat → Int32 → Int32 → Int32 → qP Int32} (hK220 : ∀ (x0 : Nat) (x2 : Int32) (x3 : Int32) (x4 : Int32), qS l g mX12_bare (d + 2) n 0 0 0 0 cvI 220 [(0, .ref x0), (2, .int x2), (3, .int x3), (4, .int x4)] [] (K220 x0 x2 x3 x4)) (x0 : Nat) (x1 : Int32) (x2 : Int32) (x3 : Int32) (x4 : Int32) (x5 : Int32) : qS l g mX12_bare (d + 2) n 0 0 0 0 cvI 35 [(0, .ref x0), (1, .int x1), (2, .int x2), (3, .int x3), (4, .int x4), (5, .int x5)] [] (UX12_bare_35 R K220 x0 x1 x2 x3 x4 x5) := by
  unfold UX12_bare_35
  refine s_iload dX12_bare_35 rfl ?_
  refine s_iconst (v := 1) dX12_bare_37 (by decide) ?_
  refine s_iconst (v := 3) dX12_bare_38 (by decide) ?_
  refine s_iload_n dX12_bare_39 rfl ?_
  refine s_imul dX12_bare_40 ?_
  refine s_ishl dX12_bare_41 ?_
  refine s_icmp_ge (tgt := 220) dX12_bare_42 (by decide) (fun c1 => ?_) (fun c1 => ?_)
  · refine s_locals [0, 2, 3, 4] rfl ?_
    exact hK220 x0 x2 x3 x4
  · refine s_iconst (v := 1) dX12_bare_45 (by decide) ?_
    refine s_istore (lv' := [(6, .int (1 : Int32)), (0, .ref x0), (1, .int x1), (2, .int x2), (3, .int x3), (4, .int x4), (5, .int x5)]) dX12_bare_46 (by decide) rfl ?_
    refine s_aload_n dX12_bare_48 rfl ?_
    refine s_virtV (as := []) (rest := []) dX12_bare_49 vX12_99 (CX12_asNow _) (Nat.le_of_ble_eq_true rfl) ⟨Nat.le_refl _, Nat.le_refl _⟩ fun v1 => ?_
    refine s_iconst (v := 0) dX12_bare_52 (by decide) ?_
    refine s_istore (lv' := [(7, .int (0 : Int32)), (6, .int (1 : Int32)), (0, .ref x0), (1, .int x1), (2, .int x2), (3, .int x3), (4, .int x4), (5, .int x5)]) dX12_bare_53 (by decide) rfl ?_
    refine s_locals [2, 3, 4, 5, 6, 7, 1, 0] rfl ?_
    exact WX12_bare_55_ok (UX12_bare_123_ok hR hK220) 1000000 x0 x1 x2 x3 x4 x5 (1 : Int32) (0 : Int32)
def WX12_bare_35 (K220 : Nat → Int32 → Int32 → Int32 → qP Int32) : Nat → Nat → Int32 → Int32 → Int32 → Int32 → Int32 → qP Int32
  | 0 => fun _ _ _ _ _ _ => qfail
  | N + 1 => fun x0 x1 x2 x3 x4 x5 => UX12_bare_35 (WX12_bare_35 K220 N) K220 x0 x1 x2 x3 x4 x5
theorem WX12_bare_35_ok {l : Launch} {g : qG} {d n : Nat} {K220 : Nat → Int32 → Int32 → Int32 → qP Int32} (hK220 : ∀ (x0 : Nat) (x2 : Int32) (x3 : Int32) (x4 : Int32), qS l g mX12_bare (d + 2) n 0 0 0 0 cvI 220 [(0, .ref x0), (2, .int x2), (3, .int x3), (4, .int x4)] [] (K220 x0 x2 x3 x4)) : ∀ (N : Nat) (x0 : Nat) (x1 : Int32) (x2 : Int32) (x3 : Int32) (x4 : Int32) (x5 : Int32), qS l g mX12_bare (d + 2) n 0 0 0 0 cvI 35 [(0, .ref x0), (1, .int x1), (2, .int x2), (3, .int x3), (4, .int x4), (5, .int x5)] [] (WX12_bare_35 K220 N x0 x1 x2 x3 x4 x5) := by
  intro N
  induction N with
  | zero => intro x0 x1 x2 x3 x4 x5; exact s_fail
  | succ N ih => intro x0 x1 x2 x3 x4 x5; exact UX12_bare_35_ok ih hK220 x0 x1 x2 x3 x4 x5
def UX12_bare_220 (x0 : Nat) (x2 : Int32) (x3 : Int32) (x4 : Int32) : qP Int32 :=
if x2 = 0 then (
qr x3) else (
if x4 = (-1 : Int32) then (
qb (qcl 12 x0) fun _ => qb (FX12_no x0) fun v1 =>
qr v1) else (
qr x4))
set_option maxRecDepth 100000 in
set_option maxHeartbeats 4000000 in
theorem UX12_bare_220_ok {l : Launch} {g : qG} {d n : Nat} (x0 : Nat) (x2 : Int32) (x3 : Int32) (x4 : Int32) : qS l g mX12_bare (d + 2) n 0 0 0 0 cvI 220 [(0, .ref x0), (2, .int x2), (3, .int x3), (4, .int x4)] [] (UX12_bare_220 x0 x2 x3 x4) := by
  unfold UX12_bare_220
  refine s_iload_n dX12_bare_220 rfl ?_
  refine s_if_ne (tgt := 228) dX12_bare_221 (by decide) (fun c1 => ?_) (fun c1 => ?_)
  · refine s_iload_n dX12_bare_224 rfl ?_
    refine s_goto (tgt := 243) dX12_bare_225 (by decide) ?_
    exact s_ireturn dX12_bare_243 rfl rfl
  · refine s_iload dX12_bare_228 rfl ?_
    refine s_iconst (v := -1) dX12_bare_230 (by decide) ?_
    refine s_icmp_ne (tgt := 241) dX12_bare_231 (by decide) (fun c2 => ?_) (fun c2 => ?_)
    · refine s_aload_n dX12_bare_234 rfl ?_
      refine s_virtI (as := []) (rest := []) dX12_bare_235 vX12_105 (CX12_no _) (Nat.le_of_ble_eq_true rfl) ⟨Nat.le_refl _, Nat.le_refl _⟩ fun v1 => ?_
      refine s_goto (tgt := 243) dX12_bare_238 (by decide) ?_
      exact s_ireturn dX12_bare_243 rfl rfl
    · refine s_iload dX12_bare_241 rfl ?_
      exact s_ireturn dX12_bare_243 rfl rfl
def FX12_bare (x0 : Nat) (x1 : Int32) (x2 : Int32) : qP Int32 :=
qb (FX12_in (x1).toInt64 (0 : Int64) (4 : Int64)) fun v1 =>
if v1 = 0 then (
UX12_bare_22 x0) else (
qb (FX12_in (x2).toInt64 (0 : Int64) (1 : Int64)) fun v2 =>
if v2 = 0 then (
UX12_bare_22 x0) else (
WX12_bare_35 (UX12_bare_220) 1000000 x0 x1 x2 (0 : Int32) (-1 : Int32) (0 : Int32)))
set_option maxRecDepth 100000 in
set_option maxHeartbeats 4000000 in
theorem FX12_bare_ok {l : Launch} {g : qG} {d n : Nat} (x0 : Nat) (x1 : Int32) (x2 : Int32) : qS l g mX12_bare (d + 2) n 0 0 0 0 cvI 0 [(0, .ref x0), (1, .int x1), (2, .int x2)] [] (FX12_bare x0 x1 x2) := by
  unfold FX12_bare
  refine s_iload_n dX12_bare_0 rfl ?_
  refine s_i2l dX12_bare_1 ?_
  refine s_lconst (v := 0) dX12_bare_2 (by decide) ?_
  refine s_ldc2 dX12_bare_3 lX12_142 ?_
  refine s_staticI (as := [.long (x1).toInt64, .long (0 : Int64), .long (4 : Int64)]) (rest := []) dX12_bare_6 sX12_59 (CX12_in _ _ _) (Nat.le_of_ble_eq_true rfl) ⟨Nat.le_refl _, Nat.le_refl _⟩ fun v1 => ?_
  refine s_if_eq (tgt := 22) dX12_bare_9 (by decide) (fun c1 => ?_) (fun c1 => ?_)
  · refine s_locals [0] rfl ?_
    exact UX12_bare_22_ok x0
  · refine s_iload_n dX12_bare_12 rfl ?_
    refine s_i2l dX12_bare_13 ?_
    refine s_lconst (v := 0) dX12_bare_14 (by decide) ?_
    refine s_lconst (v := 1) dX12_bare_15 (by decide) ?_
    refine s_staticI (as := [.long (x2).toInt64, .long (0 : Int64), .long (1 : Int64)]) (rest := []) dX12_bare_16 sX12_59 (CX12_in _ _ _) (Nat.le_of_ble_eq_true rfl) ⟨Nat.le_refl _, Nat.le_refl _⟩ fun v2 => ?_
    refine s_if_ne (tgt := 27) dX12_bare_19 (by decide) (fun c2 => ?_) (fun c2 => ?_)
    · refine s_locals [0] rfl ?_
      exact UX12_bare_22_ok x0
    · refine s_iconst (v := 0) dX12_bare_27 (by decide) ?_
      refine s_istore_n (lv' := [(3, .int (0 : Int32)), (0, .ref x0), (1, .int x1), (2, .int x2)]) dX12_bare_28 (by decide) rfl ?_
      refine s_iconst (v := -1) dX12_bare_29 (by decide) ?_
      refine s_istore (lv' := [(4, .int (-1 : Int32)), (3, .int (0 : Int32)), (0, .ref x0), (1, .int x1), (2, .int x2)]) dX12_bare_30 (by decide) rfl ?_
      refine s_iconst (v := 0) dX12_bare_32 (by decide) ?_
      refine s_istore (lv' := [(5, .int (0 : Int32)), (4, .int (-1 : Int32)), (3, .int (0 : Int32)), (0, .ref x0), (1, .int x1), (2, .int x2)]) dX12_bare_33 (by decide) rfl ?_
      refine s_locals [3, 4, 5, 2, 1, 0] rfl ?_
      exact WX12_bare_35_ok (UX12_bare_220_ok) 1000000 x0 x1 x2 (0 : Int32) (-1 : Int32) (0 : Int32)
theorem CX12_bare {l : Launch} {g : qG} {d : Nat} (x0 : Nat) (x1 : Int32) (x2 : Int32) : qCt l g mX12_bare (d + 2) 0 0 cvI [.ref x0, .int x1, .int x2] (FX12_bare x0 x1 x2) := s_of pn_X12 (Nat.le_of_ble_eq_true rfl) fun n => FX12_bare_ok x0 x1 x2
def FX12_sign (x0 : Nat) (x1 : Int32) : qP Int32 :=
qb (FX12_in (x1).toInt64 (0 : Int64) (25 : Int64)) fun v1 =>
if v1 = 0 then (
qb (qcl 12 x0) fun _ => qb (FX12_bad x0) fun v2 =>
qr v2) else (
qb (gR 12 x0 0) fun v3 =>
qb (aI v3 (3 : Int32)) fun v4 =>
if v4 = (60 : Int32) then (
qb (qcl 12 x0) fun _ => qb (FX12_full x0) fun v5 =>
qr v5) else (
qb (gR 12 x0 0) fun v6 =>
qb (gR 12 x0 0) fun v7 =>
qb (aI v7 (3 : Int32)) fun v8 =>
qb (sI v6 ((29 : Int32) + v8) x1) fun _ =>
qb (gR 12 x0 0) fun v9 =>
qb (aI v9 (3 : Int32)) fun v10 =>
qb (sI v9 (3 : Int32) (v10 + (1 : Int32))) fun _ =>
qb (gR 12 x0 0) fun v11 =>
qb (aI v11 (3 : Int32)) fun v12 =>
qr v12))
set_option maxRecDepth 100000 in
set_option maxHeartbeats 4000000 in
theorem FX12_sign_ok {l : Launch} {g : qG} {d n : Nat} (x0 : Nat) (x1 : Int32) : qS l g mX12_sign (d + 2) n 0 0 0 0 cvI 0 [(0, .ref x0), (1, .int x1)] [] (FX12_sign x0 x1) := by
  unfold FX12_sign
  refine s_iload_n dX12_sign_0 rfl ?_
  refine s_i2l dX12_sign_1 ?_
  refine s_lconst (v := 0) dX12_sign_2 (by decide) ?_
  refine s_ldc2 dX12_sign_3 lX12_144 ?_
  refine s_staticI (as := [.long (x1).toInt64, .long (0 : Int64), .long (25 : Int64)]) (rest := []) dX12_sign_6 sX12_59 (CX12_in _ _ _) (Nat.le_of_ble_eq_true rfl) ⟨Nat.le_refl _, Nat.le_refl _⟩ fun v1 => ?_
  refine s_if_ne (tgt := 17) dX12_sign_9 (by decide) (fun c1 => ?_) (fun c1 => ?_)
  · refine s_aload_n dX12_sign_12 rfl ?_
    refine s_virtI (as := []) (rest := []) dX12_sign_13 vX12_74 (CX12_bad _) (Nat.le_of_ble_eq_true rfl) ⟨Nat.le_refl _, Nat.le_refl _⟩ fun v2 => ?_
    exact s_ireturn dX12_sign_16 rfl rfl
  · refine s_aload_n dX12_sign_17 rfl ?_
    refine s_gR dX12_sign_18 fX12_7 fun v3 => ?_
    refine s_iconst (v := 3) dX12_sign_21 (by decide) ?_
    refine s_aI dX12_sign_22 fun v4 => ?_
    refine s_bipush (v := 60) dX12_sign_23 (by decide) ?_
    refine s_icmp_ne (tgt := 33) dX12_sign_25 (by decide) (fun c2 => ?_) (fun c2 => ?_)
    · refine s_aload_n dX12_sign_28 rfl ?_
      refine s_virtI (as := []) (rest := []) dX12_sign_29 vX12_78 (CX12_full _) (Nat.le_of_ble_eq_true rfl) ⟨Nat.le_refl _, Nat.le_refl _⟩ fun v5 => ?_
      exact s_ireturn dX12_sign_32 rfl rfl
    · refine s_aload_n dX12_sign_33 rfl ?_
      refine s_gR dX12_sign_34 fX12_7 fun v6 => ?_
      refine s_bipush (v := 29) dX12_sign_37 (by decide) ?_
      refine s_aload_n dX12_sign_39 rfl ?_
      refine s_gR dX12_sign_40 fX12_7 fun v7 => ?_
      refine s_iconst (v := 3) dX12_sign_43 (by decide) ?_
      refine s_aI dX12_sign_44 fun v8 => ?_
      refine s_iadd dX12_sign_45 ?_
      refine s_iload_n dX12_sign_46 rfl ?_
      refine s_sI dX12_sign_47 ?_
      refine s_aload_n dX12_sign_48 rfl ?_
      refine s_gR dX12_sign_49 fX12_7 fun v9 => ?_
      refine s_iconst (v := 3) dX12_sign_52 (by decide) ?_
      refine s_dup2 dX12_sign_53 rfl rfl ?_
      refine s_aI dX12_sign_54 fun v10 => ?_
      refine s_iconst (v := 1) dX12_sign_55 (by decide) ?_
      refine s_iadd dX12_sign_56 ?_
      refine s_sI dX12_sign_57 ?_
      refine s_aload_n dX12_sign_58 rfl ?_
      refine s_gR dX12_sign_59 fX12_7 fun v11 => ?_
      refine s_iconst (v := 3) dX12_sign_62 (by decide) ?_
      refine s_aI dX12_sign_63 fun v12 => ?_
      exact s_ireturn dX12_sign_64 rfl rfl
theorem CX12_sign {l : Launch} {g : qG} {d : Nat} (x0 : Nat) (x1 : Int32) : qCt l g mX12_sign (d + 2) 0 0 cvI [.ref x0, .int x1] (FX12_sign x0 x1) := s_of pn_X12 (Nat.le_of_ble_eq_true rfl) fun n => FX12_sign_ok x0 x1
def FX12_hush (x0 : Nat) : qP Int32 :=
qb (gR 12 x0 0) fun v1 =>
qb (aI v1 (3 : Int32)) fun v2 =>
qb (gR 12 x0 0) fun v3 =>
qb (sI v3 (3 : Int32) (0 : Int32)) fun _ =>
qr v2
set_option maxRecDepth 100000 in
set_option maxHeartbeats 4000000 in
theorem FX12_hush_ok {l : Launch} {g : qG} {d n : Nat} (x0 : Nat) : qS l g mX12_hush d n 0 0 0 0 cvI 0 [(0, .ref x0)] [] (FX12_hush x0) := by
  unfold FX12_hush
  refine s_aload_n dX12_hush_0 rfl ?_
  refine s_gR dX12_hush_1 fX12_7 fun v1 => ?_
  refine s_iconst (v := 3) dX12_hush_4 (by decide) ?_
  refine s_aI dX12_hush_5 fun v2 => ?_
  refine s_istore_n (lv' := [(1, .int v2), (0, .ref x0)]) dX12_hush_6 (by decide) rfl ?_
  refine s_aload_n dX12_hush_7 rfl ?_
  refine s_gR dX12_hush_8 fX12_7 fun v3 => ?_
  refine s_iconst (v := 3) dX12_hush_11 (by decide) ?_
  refine s_iconst (v := 0) dX12_hush_12 (by decide) ?_
  refine s_sI dX12_hush_13 ?_
  refine s_iload_n dX12_hush_14 rfl ?_
  exact s_ireturn dX12_hush_15 rfl rfl
theorem CX12_hush {l : Launch} {g : qG} {d : Nat} (x0 : Nat) : qCt l g mX12_hush d 0 0 cvI [.ref x0] (FX12_hush x0) := s_of pn_X12 (Nat.le_of_ble_eq_true rfl) fun n => FX12_hush_ok x0
def UX12_law_24 (x0 : Nat) : qP Int32 :=
qb (qcl 12 x0) fun _ => qb (FX12_bad x0) fun v1 =>
qr v1
set_option maxRecDepth 100000 in
set_option maxHeartbeats 4000000 in
theorem UX12_law_24_ok {l : Launch} {g : qG} {d n : Nat} (x0 : Nat) : qS l g mX12_law (d + 2) n 0 0 0 0 cvI 24 [(0, .ref x0)] [] (UX12_law_24 x0) := by
  unfold UX12_law_24
  refine s_aload_n dX12_law_24 rfl ?_
  refine s_virtI (as := []) (rest := []) dX12_law_25 vX12_74 (CX12_bad _) (Nat.le_of_ble_eq_true rfl) ⟨Nat.le_refl _, Nat.le_refl _⟩ fun v1 => ?_
  exact s_ireturn dX12_law_28 rfl rfl
def FX12_law (x0 : Nat) (x1 : Int32) (x2 : Int32) : qP Int32 :=
qb (FX12_in (x1).toInt64 (0 : Int64) (3 : Int64)) fun v1 =>
if v1 = 0 then (
UX12_law_24 x0) else (
qb (FX12_in (x2).toInt64 (0 : Int64) (27 : Int64)) fun v2 =>
if v2 = 0 then (
UX12_law_24 x0) else (
qb (gR 12 x0 0) fun v3 =>
qb (aI v3 ((89 : Int32) + x1)) fun v4 =>
if v4 = (8 : Int32) then (
qb (qcl 12 x0) fun _ => qb (FX12_full x0) fun v5 =>
qr v5) else (
qb (gR 12 x0 0) fun v6 =>
qb (gR 12 x0 0) fun v7 =>
qb (aI v7 ((89 : Int32) + x1)) fun v8 =>
qb (sI v6 (((93 : Int32) + ((8 : Int32) * x1)) + v8) x2) fun _ =>
qb (gR 12 x0 0) fun v9 =>
qb (aI v9 ((89 : Int32) + x1)) fun v10 =>
qb (sI v9 ((89 : Int32) + x1) (v10 + (1 : Int32))) fun _ =>
qb (gR 12 x0 0) fun v11 =>
qb (aI v11 ((89 : Int32) + x1)) fun v12 =>
qr v12)))
set_option maxRecDepth 100000 in
set_option maxHeartbeats 4000000 in
theorem FX12_law_ok {l : Launch} {g : qG} {d n : Nat} (x0 : Nat) (x1 : Int32) (x2 : Int32) : qS l g mX12_law (d + 2) n 0 0 0 0 cvI 0 [(0, .ref x0), (1, .int x1), (2, .int x2)] [] (FX12_law x0 x1 x2) := by
  unfold FX12_law
  refine s_iload_n dX12_law_0 rfl ?_
  refine s_i2l dX12_law_1 ?_
  refine s_lconst (v := 0) dX12_law_2 (by decide) ?_
  refine s_ldc2 dX12_law_3 lX12_108 ?_
  refine s_staticI (as := [.long (x1).toInt64, .long (0 : Int64), .long (3 : Int64)]) (rest := []) dX12_law_6 sX12_59 (CX12_in _ _ _) (Nat.le_of_ble_eq_true rfl) ⟨Nat.le_refl _, Nat.le_refl _⟩ fun v1 => ?_
  refine s_if_eq (tgt := 24) dX12_law_9 (by decide) (fun c1 => ?_) (fun c1 => ?_)
  · refine s_locals [0] rfl ?_
    exact UX12_law_24_ok x0
  · refine s_iload_n dX12_law_12 rfl ?_
    refine s_i2l dX12_law_13 ?_
    refine s_lconst (v := 0) dX12_law_14 (by decide) ?_
    refine s_ldc2 dX12_law_15 lX12_146 ?_
    refine s_staticI (as := [.long (x2).toInt64, .long (0 : Int64), .long (27 : Int64)]) (rest := []) dX12_law_18 sX12_59 (CX12_in _ _ _) (Nat.le_of_ble_eq_true rfl) ⟨Nat.le_refl _, Nat.le_refl _⟩ fun v2 => ?_
    refine s_if_ne (tgt := 29) dX12_law_21 (by decide) (fun c2 => ?_) (fun c2 => ?_)
    · refine s_locals [0] rfl ?_
      exact UX12_law_24_ok x0
    · refine s_aload_n dX12_law_29 rfl ?_
      refine s_gR dX12_law_30 fX12_7 fun v3 => ?_
      refine s_bipush (v := 89) dX12_law_33 (by decide) ?_
      refine s_iload_n dX12_law_35 rfl ?_
      refine s_iadd dX12_law_36 ?_
      refine s_aI dX12_law_37 fun v4 => ?_
      refine s_bipush (v := 8) dX12_law_38 (by decide) ?_
      refine s_icmp_ne (tgt := 48) dX12_law_40 (by decide) (fun c3 => ?_) (fun c3 => ?_)
      · refine s_aload_n dX12_law_43 rfl ?_
        refine s_virtI (as := []) (rest := []) dX12_law_44 vX12_78 (CX12_full _) (Nat.le_of_ble_eq_true rfl) ⟨Nat.le_refl _, Nat.le_refl _⟩ fun v5 => ?_
        exact s_ireturn dX12_law_47 rfl rfl
      · refine s_aload_n dX12_law_48 rfl ?_
        refine s_gR dX12_law_49 fX12_7 fun v6 => ?_
        refine s_bipush (v := 93) dX12_law_52 (by decide) ?_
        refine s_bipush (v := 8) dX12_law_54 (by decide) ?_
        refine s_iload_n dX12_law_56 rfl ?_
        refine s_imul dX12_law_57 ?_
        refine s_iadd dX12_law_58 ?_
        refine s_aload_n dX12_law_59 rfl ?_
        refine s_gR dX12_law_60 fX12_7 fun v7 => ?_
        refine s_bipush (v := 89) dX12_law_63 (by decide) ?_
        refine s_iload_n dX12_law_65 rfl ?_
        refine s_iadd dX12_law_66 ?_
        refine s_aI dX12_law_67 fun v8 => ?_
        refine s_iadd dX12_law_68 ?_
        refine s_iload_n dX12_law_69 rfl ?_
        refine s_sI dX12_law_70 ?_
        refine s_aload_n dX12_law_71 rfl ?_
        refine s_gR dX12_law_72 fX12_7 fun v9 => ?_
        refine s_bipush (v := 89) dX12_law_75 (by decide) ?_
        refine s_iload_n dX12_law_77 rfl ?_
        refine s_iadd dX12_law_78 ?_
        refine s_dup2 dX12_law_79 rfl rfl ?_
        refine s_aI dX12_law_80 fun v10 => ?_
        refine s_iconst (v := 1) dX12_law_81 (by decide) ?_
        refine s_iadd dX12_law_82 ?_
        refine s_sI dX12_law_83 ?_
        refine s_aload_n dX12_law_84 rfl ?_
        refine s_gR dX12_law_85 fX12_7 fun v11 => ?_
        refine s_bipush (v := 89) dX12_law_88 (by decide) ?_
        refine s_iload_n dX12_law_90 rfl ?_
        refine s_iadd dX12_law_91 ?_
        refine s_aI dX12_law_92 fun v12 => ?_
        exact s_ireturn dX12_law_93 rfl rfl
theorem CX12_law {l : Launch} {g : qG} {d : Nat} (x0 : Nat) (x1 : Int32) (x2 : Int32) : qCt l g mX12_law (d + 2) 0 0 cvI [.ref x0, .int x1, .int x2] (FX12_law x0 x1 x2) := s_of pn_X12 (Nat.le_of_ble_eq_true rfl) fun n => FX12_law_ok x0 x1 x2
def FX12_noLaw (x0 : Nat) (x1 : Int32) : qP Int32 :=
qb (FX12_in (x1).toInt64 (0 : Int64) (3 : Int64)) fun v1 =>
if v1 = 0 then (
qb (qcl 12 x0) fun _ => qb (FX12_bad x0) fun v2 =>
qr v2) else (
qb (gR 12 x0 0) fun v3 =>
qb (aI v3 ((89 : Int32) + x1)) fun v4 =>
qb (gR 12 x0 0) fun v5 =>
qb (sI v5 ((89 : Int32) + x1) (0 : Int32)) fun _ =>
qr v4)
set_option maxRecDepth 100000 in
set_option maxHeartbeats 4000000 in
theorem FX12_noLaw_ok {l : Launch} {g : qG} {d n : Nat} (x0 : Nat) (x1 : Int32) : qS l g mX12_noLaw (d + 2) n 0 0 0 0 cvI 0 [(0, .ref x0), (1, .int x1)] [] (FX12_noLaw x0 x1) := by
  unfold FX12_noLaw
  refine s_iload_n dX12_noLaw_0 rfl ?_
  refine s_i2l dX12_noLaw_1 ?_
  refine s_lconst (v := 0) dX12_noLaw_2 (by decide) ?_
  refine s_ldc2 dX12_noLaw_3 lX12_108 ?_
  refine s_staticI (as := [.long (x1).toInt64, .long (0 : Int64), .long (3 : Int64)]) (rest := []) dX12_noLaw_6 sX12_59 (CX12_in _ _ _) (Nat.le_of_ble_eq_true rfl) ⟨Nat.le_refl _, Nat.le_refl _⟩ fun v1 => ?_
  refine s_if_ne (tgt := 17) dX12_noLaw_9 (by decide) (fun c1 => ?_) (fun c1 => ?_)
  · refine s_aload_n dX12_noLaw_12 rfl ?_
    refine s_virtI (as := []) (rest := []) dX12_noLaw_13 vX12_74 (CX12_bad _) (Nat.le_of_ble_eq_true rfl) ⟨Nat.le_refl _, Nat.le_refl _⟩ fun v2 => ?_
    exact s_ireturn dX12_noLaw_16 rfl rfl
  · refine s_aload_n dX12_noLaw_17 rfl ?_
    refine s_gR dX12_noLaw_18 fX12_7 fun v3 => ?_
    refine s_bipush (v := 89) dX12_noLaw_21 (by decide) ?_
    refine s_iload_n dX12_noLaw_23 rfl ?_
    refine s_iadd dX12_noLaw_24 ?_
    refine s_aI dX12_noLaw_25 fun v4 => ?_
    refine s_istore_n (lv' := [(2, .int v4), (0, .ref x0), (1, .int x1)]) dX12_noLaw_26 (by decide) rfl ?_
    refine s_aload_n dX12_noLaw_27 rfl ?_
    refine s_gR dX12_noLaw_28 fX12_7 fun v5 => ?_
    refine s_bipush (v := 89) dX12_noLaw_31 (by decide) ?_
    refine s_iload_n dX12_noLaw_33 rfl ?_
    refine s_iadd dX12_noLaw_34 ?_
    refine s_iconst (v := 0) dX12_noLaw_35 (by decide) ?_
    refine s_sI dX12_noLaw_36 ?_
    refine s_iload_n dX12_noLaw_37 rfl ?_
    exact s_ireturn dX12_noLaw_38 rfl rfl
theorem CX12_noLaw {l : Launch} {g : qG} {d : Nat} (x0 : Nat) (x1 : Int32) : qCt l g mX12_noLaw (d + 2) 0 0 cvI [.ref x0, .int x1] (FX12_noLaw x0 x1) := s_of pn_X12 (Nat.le_of_ble_eq_true rfl) fun n => FX12_noLaw_ok x0 x1
def FX12_signAt (x0 : Nat) (x1 : Int32) : qP Int32 :=
qb (gR 12 x0 0) fun v1 =>
qb (aI v1 (3 : Int32)) fun v2 =>
if v2 ≤ x1 then (
qb (gR 12 x0 11) fun v3 =>
qb (gR 12 x0 0) fun v4 =>
qb (aI v4 (3 : Int32)) fun v5 =>
qb (aI v3 (x1 - v5)) fun v6 =>
qr v6) else (
qb (gR 12 x0 0) fun v7 =>
qb (aI v7 ((29 : Int32) + x1)) fun v8 =>
qr v8)
set_option maxRecDepth 100000 in
set_option maxHeartbeats 4000000 in
theorem FX12_signAt_ok {l : Launch} {g : qG} {d n : Nat} (x0 : Nat) (x1 : Int32) : qS l g mX12_signAt d n 0 0 0 0 cvI 0 [(0, .ref x0), (1, .int x1)] [] (FX12_signAt x0 x1) := by
  unfold FX12_signAt
  refine s_iload_n dX12_signAt_0 rfl ?_
  refine s_aload_n dX12_signAt_1 rfl ?_
  refine s_gR dX12_signAt_2 fX12_7 fun v1 => ?_
  refine s_iconst (v := 3) dX12_signAt_5 (by decide) ?_
  refine s_aI dX12_signAt_6 fun v2 => ?_
  refine s_icmp_ge (tgt := 22) dX12_signAt_7 (by decide) (fun c1 => ?_) (fun c1 => ?_)
  · refine s_aload_n dX12_signAt_22 rfl ?_
    refine s_gR dX12_signAt_23 fX12_35 fun v3 => ?_
    refine s_iload_n dX12_signAt_26 rfl ?_
    refine s_aload_n dX12_signAt_27 rfl ?_
    refine s_gR dX12_signAt_28 fX12_7 fun v4 => ?_
    refine s_iconst (v := 3) dX12_signAt_31 (by decide) ?_
    refine s_aI dX12_signAt_32 fun v5 => ?_
    refine s_isub dX12_signAt_33 ?_
    refine s_aI dX12_signAt_34 fun v6 => ?_
    exact s_ireturn dX12_signAt_35 rfl rfl
  · refine s_aload_n dX12_signAt_10 rfl ?_
    refine s_gR dX12_signAt_11 fX12_7 fun v7 => ?_
    refine s_bipush (v := 29) dX12_signAt_14 (by decide) ?_
    refine s_iload_n dX12_signAt_16 rfl ?_
    refine s_iadd dX12_signAt_17 ?_
    refine s_aI dX12_signAt_18 fun v8 => ?_
    refine s_goto (tgt := 35) dX12_signAt_19 (by decide) ?_
    exact s_ireturn dX12_signAt_35 rfl rfl
theorem CX12_signAt {l : Launch} {g : qG} {d : Nat} (x0 : Nat) (x1 : Int32) : qCt l g mX12_signAt d 0 0 cvI [.ref x0, .int x1] (FX12_signAt x0 x1) := s_of pn_X12 (Nat.le_of_ble_eq_true rfl) fun n => FX12_signAt_ok x0 x1

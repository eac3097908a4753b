def FX11_counted (x0 : Nat) (x1 : Int32) : qP Int32 :=
if x1 = (-2 : Int32) then (
qb (gI 11 x0 7) fun v1 =>
qb (pV 11 x0 7 (.int (v1 + (1 : Int32)))) fun _ =>
qr x1) else (
if x1 = (-3 : Int32) then (
qb (gI 11 x0 8) fun v2 =>
qb (pV 11 x0 8 (.int (v2 + (1 : Int32)))) fun _ =>
qr x1) else (
if x1 = (-4 : Int32) then (
qb (gI 11 x0 9) fun v3 =>
qb (pV 11 x0 9 (.int (v3 + (1 : Int32)))) fun _ =>
qr x1) else (
qr x1)))
set_option maxRecDepth 100000 in
set_option maxHeartbeats 4000000 in
theorem FX11_counted_ok {l : Launch} {g : qG} {d n : Nat} (x0 : Nat) (x1 : Int32) : qS l g mX11_counted d n 0 0 0 0 cvI 0 [(0, .ref x0), (1, .int x1)] [] (FX11_counted x0 x1) := by
  unfold FX11_counted
  refine s_iload_n dX11_counted_0 rfl ?_
  refine s_bipush (v := -2) dX11_counted_1 (by decide) ?_
  refine s_icmp_ne (tgt := 19) dX11_counted_3 (by decide) (fun c1 => ?_) (fun c1 => ?_)
  · refine s_aload_n dX11_counted_6 rfl ?_
    refine s_dup dX11_counted_7 rfl ?_
    refine s_gI dX11_counted_8 fX11_44 fun v1 => ?_
    refine s_iconst (v := 1) dX11_counted_11 (by decide) ?_
    refine s_iadd dX11_counted_12 ?_
    refine s_put dX11_counted_13 fX11_44 rfl rfl ?_
    refine s_goto (tgt := 54) dX11_counted_16 (by decide) ?_
    refine s_iload_n dX11_counted_54 rfl ?_
    exact s_ireturn dX11_counted_55 rfl rfl
  · refine s_iload_n dX11_counted_19 rfl ?_
    refine s_bipush (v := -3) dX11_counted_20 (by decide) ?_
    refine s_icmp_ne (tgt := 38) dX11_counted_22 (by decide) (fun c2 => ?_) (fun c2 => ?_)
    · refine s_aload_n dX11_counted_25 rfl ?_
      refine s_dup dX11_counted_26 rfl ?_
      refine s_gI dX11_counted_27 fX11_48 fun v2 => ?_
      refine s_iconst (v := 1) dX11_counted_30 (by decide) ?_
      refine s_iadd dX11_counted_31 ?_
      refine s_put dX11_counted_32 fX11_48 rfl rfl ?_
      refine s_goto (tgt := 54) dX11_counted_35 (by decide) ?_
      refine s_iload_n dX11_counted_54 rfl ?_
      exact s_ireturn dX11_counted_55 rfl rfl
    · refine s_iload_n dX11_counted_38 rfl ?_
      refine s_bipush (v := -4) dX11_counted_39 (by decide) ?_
      refine s_icmp_ne (tgt := 54) dX11_counted_41 (by decide) (fun c3 => ?_) (fun c3 => ?_)
      · refine s_aload_n dX11_counted_44 rfl ?_
        refine s_dup dX11_counted_45 rfl ?_
        refine s_gI dX11_counted_46 fX11_51 fun v3 => ?_
        refine s_iconst (v := 1) dX11_counted_49 (by decide) ?_
        refine s_iadd dX11_counted_50 ?_
        refine s_put dX11_counted_51 fX11_51 rfl rfl ?_
        refine s_iload_n dX11_counted_54 rfl ?_
        exact s_ireturn dX11_counted_55 rfl rfl
      · refine s_iload_n dX11_counted_54 rfl ?_
        exact s_ireturn dX11_counted_55 rfl rfl
theorem CX11_counted {l : Launch} {g : qG} {d : Nat} (x0 : Nat) (x1 : Int32) : qCt l g mX11_counted d 0 0 cvI [.ref x0, .int x1] (FX11_counted x0 x1) := s_of pn_X11 (Nat.le_of_ble_eq_true rfl) fun n => FX11_counted_ok x0 x1
def FX11_plot (x0 : Nat) (x1 : Int32) (x2 : Int32) : qP Int32 :=
qb (gR 11 x0 0) fun v1 =>
qb (qcl 2 v1) fun _ => qb (FX2_addPlot v1 x1 x2) fun v2 =>
qb (qcl 11 x0) fun _ => qb (FX11_counted x0 v2) fun v3 =>
qr v3
set_option maxRecDepth 100000 in
set_option maxHeartbeats 4000000 in
theorem FX11_plot_ok {l : Launch} {g : qG} {d n : Nat} (x0 : Nat) (x1 : Int32) (x2 : Int32) : qS l g mX11_plot (d + 1) n 0 0 0 0 cvI 0 [(0, .ref x0), (1, .int x1), (2, .int x2)] [] (FX11_plot x0 x1 x2) := by
  unfold FX11_plot
  refine s_aload_n dX11_plot_0 rfl ?_
  refine s_aload_n dX11_plot_1 rfl ?_
  refine s_gR dX11_plot_2 fX11_10 fun v1 => ?_
  refine s_iload_n dX11_plot_5 rfl ?_
  refine s_iload_n dX11_plot_6 rfl ?_
  refine s_virtI (as := [.int x1, .int x2]) (rest := [.ref x0]) dX11_plot_7 vX11_54 (CX2_addPlot _ _ _) (Nat.le_of_ble_eq_true rfl) ⟨Nat.le_refl _, Nat.le_refl _⟩ fun v2 => ?_
  refine s_virtI (as := [.int v2]) (rest := []) dX11_plot_10 vX11_58 (CX11_counted _ _) (Nat.le_of_ble_eq_true rfl) ⟨Nat.le_refl _, Nat.le_refl _⟩ fun v3 => ?_
  exact s_ireturn dX11_plot_13 rfl rfl
theorem CX11_plot {l : Launch} {g : qG} {d : Nat} (x0 : Nat) (x1 : Int32) (x2 : Int32) : qCt l g mX11_plot (d + 1) 0 0 cvI [.ref x0, .int x1, .int x2] (FX11_plot x0 x1 x2) := s_of pn_X11 (Nat.le_of_ble_eq_true rfl) fun n => FX11_plot_ok x0 x1 x2
def FX11_shirt (x0 : Nat) (x1 : Int32) : qP Int32 :=
qb (gR 11 x0 0) fun v1 =>
qb (qcl 2 v1) fun _ => qb (FX2_addShirt v1 x1) fun v2 =>
qb (qcl 11 x0) fun _ => qb (FX11_counted x0 v2) fun v3 =>
qr v3
set_option maxRecDepth 100000 in
set_option maxHeartbeats 4000000 in
theorem FX11_shirt_ok {l : Launch} {g : qG} {d n : Nat} (x0 : Nat) (x1 : Int32) : qS l g mX11_shirt (d + 1) n 0 0 0 0 cvI 0 [(0, .ref x0), (1, .int x1)] [] (FX11_shirt x0 x1) := by
  unfold FX11_shirt
  refine s_aload_n dX11_shirt_0 rfl ?_
  refine s_aload_n dX11_shirt_1 rfl ?_
  refine s_gR dX11_shirt_2 fX11_10 fun v1 => ?_
  refine s_iload_n dX11_shirt_5 rfl ?_
  refine s_virtI (as := [.int x1]) (rest := [.ref x0]) dX11_shirt_6 vX11_62 (CX2_addShirt _ _) (Nat.le_of_ble_eq_true rfl) ⟨Nat.le_refl _, Nat.le_refl _⟩ fun v2 => ?_
  refine s_virtI (as := [.int v2]) (rest := []) dX11_shirt_9 vX11_58 (CX11_counted _ _) (Nat.le_of_ble_eq_true rfl) ⟨Nat.le_refl _, Nat.le_refl _⟩ fun v3 => ?_
  exact s_ireturn dX11_shirt_12 rfl rfl
theorem CX11_shirt {l : Launch} {g : qG} {d : Nat} (x0 : Nat) (x1 : Int32) : qCt l g mX11_shirt (d + 1) 0 0 cvI [.ref x0, .int x1] (FX11_shirt x0 x1) := s_of pn_X11 (Nat.le_of_ble_eq_true rfl) fun n => FX11_shirt_ok x0 x1
def FX11_night (x0 : Nat) (x1 : Int32) : qP Int32 :=
qb (gR 11 x0 0) fun v1 =>
qb (qcl 2 v1) fun _ => qb (FX2_passNight v1 x1) fun v2 =>
qb (qcl 11 x0) fun _ => qb (FX11_counted x0 v2) fun v3 =>
qr v3
set_option maxRecDepth 100000 in
set_option maxHeartbeats 4000000 in
theorem FX11_night_ok {l : Launch} {g : qG} {d n : Nat} (x0 : Nat) (x1 : Int32) : qS l g mX11_night (d + 6) n 0 0 0 0 cvI 0 [(0, .ref x0), (1, .int x1)] [] (FX11_night x0 x1) := by
  unfold FX11_night
  refine s_aload_n dX11_night_0 rfl ?_
  refine s_aload_n dX11_night_1 rfl ?_
  refine s_gR dX11_night_2 fX11_10 fun v1 => ?_
  refine s_iload_n dX11_night_5 rfl ?_
  refine s_virtI (as := [.int x1]) (rest := [.ref x0]) dX11_night_6 vX11_65 (CX2_passNight _ _) (Nat.le_of_ble_eq_true rfl) ⟨Nat.le_refl _, Nat.le_refl _⟩ fun v2 => ?_
  refine s_virtI (as := [.int v2]) (rest := []) dX11_night_9 vX11_58 (CX11_counted _ _) (Nat.le_of_ble_eq_true rfl) ⟨Nat.le_refl _, Nat.le_refl _⟩ fun v3 => ?_
  exact s_ireturn dX11_night_12 rfl rfl
theorem CX11_night {l : Launch} {g : qG} {d : Nat} (x0 : Nat) (x1 : Int32) : qCt l g mX11_night (d + 6) 0 0 cvI [.ref x0, .int x1] (FX11_night x0 x1) := s_of pn_X11 (Nat.le_of_ble_eq_true rfl) fun n => FX11_night_ok x0 x1
def FX11_undo (x0 : Nat) : qP Int32 :=
qb (gR 11 x0 0) fun v1 =>
qb (qcl 2 v1) fun _ => qb (FX2_takeBack v1) fun v2 =>
qb (qcl 11 x0) fun _ => qb (FX11_counted x0 v2) fun v3 =>
qr v3
set_option maxRecDepth 100000 in
set_option maxHeartbeats 4000000 in
theorem FX11_undo_ok {l : Launch} {g : qG} {d n : Nat} (x0 : Nat) : qS l g mX11_undo (d + 2) n 0 0 0 0 cvI 0 [(0, .ref x0)] [] (FX11_undo x0) := by
  unfold FX11_undo
  refine s_aload_n dX11_undo_0 rfl ?_
  refine s_aload_n dX11_undo_1 rfl ?_
  refine s_gR dX11_undo_2 fX11_10 fun v1 => ?_
  refine s_virtI (as := []) (rest := [.ref x0]) dX11_undo_5 vX11_68 (CX2_takeBack _) (Nat.le_of_ble_eq_true rfl) ⟨Nat.le_refl _, Nat.le_refl _⟩ fun v2 => ?_
  refine s_virtI (as := [.int v2]) (rest := []) dX11_undo_8 vX11_58 (CX11_counted _ _) (Nat.le_of_ble_eq_true rfl) ⟨Nat.le_refl _, Nat.le_refl _⟩ fun v3 => ?_
  exact s_ireturn dX11_undo_11 rfl rfl
theorem CX11_undo {l : Launch} {g : qG} {d : Nat} (x0 : Nat) : qCt l g mX11_undo (d + 2) 0 0 cvI [.ref x0] (FX11_undo x0) := s_of pn_X11 (Nat.le_of_ble_eq_true rfl) fun n => FX11_undo_ok x0
def UX11_nettles_26 (s0 : Nat) (s1 : Int32) : qP Int32 :=
qb (qcl 11 s0) fun _ => qb (FX11_counted s0 s1) fun v1 =>
qr v1
set_option maxRecDepth 100000 in
set_option maxHeartbeats 4000000 in
theorem UX11_nettles_26_ok {l : Launch} {g : qG} {d n : Nat} (s0 : Nat) (s1 : Int32) : qS l g mX11_nettles (d + 1) n 0 0 0 0 cvI 26 [] [.int s1, .ref s0] (UX11_nettles_26 s0 s1) := by
  unfold UX11_nettles_26
  refine s_virtI (as := [.int s1]) (rest := []) dX11_nettles_26 vX11_58 (CX11_counted _ _) (Nat.le_of_ble_eq_true rfl) ⟨Nat.le_refl _, Nat.le_refl _⟩ fun v1 => ?_
  exact s_ireturn dX11_nettles_29 rfl rfl
def FX11_nettles (x0 : Nat) (x1 : Int32) : qP Int32 :=
qb (gR 11 x0 0) fun v1 =>
qb (qcl 2 v1) fun _ => qb (FX2_hasPlot v1 x1) fun v2 =>
if v2 = 0 then (
UX11_nettles_26 x0 (-2 : Int32)) else (
qb (gR 11 x0 0) fun v3 =>
qb (gR 2 v3 6) fun v4 =>
qb (aI v4 x1) fun v5 =>
UX11_nettles_26 x0 v5)
set_option maxRecDepth 100000 in
set_option maxHeartbeats 4000000 in
theorem FX11_nettles_ok {l : Launch} {g : qG} {d n : Nat} (x0 : Nat) (x1 : Int32) : qS l g mX11_nettles (d + 1) n 0 0 0 0 cvI 0 [(0, .ref x0), (1, .int x1)] [] (FX11_nettles x0 x1) := by
  unfold FX11_nettles
  refine s_aload_n dX11_nettles_0 rfl ?_
  refine s_aload_n dX11_nettles_1 rfl ?_
  refine s_gR dX11_nettles_2 fX11_10 fun v1 => ?_
  refine s_iload_n dX11_nettles_5 rfl ?_
  refine s_virtI (as := [.int x1]) (rest := [.ref x0]) dX11_nettles_6 vX11_72 (CX2_hasPlot _ _) (Nat.le_of_ble_eq_true rfl) ⟨Nat.le_refl _, Nat.le_refl _⟩ fun v2 => ?_
  refine s_if_eq (tgt := 24) dX11_nettles_9 (by decide) (fun c1 => ?_) (fun c1 => ?_)
  · refine s_bipush (v := -2) dX11_nettles_24 (by decide) ?_
    refine s_locals [] rfl ?_
    exact UX11_nettles_26_ok x0 (-2 : Int32)
  · refine s_aload_n dX11_nettles_12 rfl ?_
    refine s_gR dX11_nettles_13 fX11_10 fun v3 => ?_
    refine s_gR dX11_nettles_16 fX11_76 fun v4 => ?_
    refine s_iload_n dX11_nettles_19 rfl ?_
    refine s_aI dX11_nettles_20 fun v5 => ?_
    refine s_goto (tgt := 26) dX11_nettles_21 (by decide) ?_
    refine s_locals [] rfl ?_
    exact UX11_nettles_26_ok x0 v5
theorem CX11_nettles {l : Launch} {g : qG} {d : Nat} (x0 : Nat) (x1 : Int32) : qCt l g mX11_nettles (d + 1) 0 0 cvI [.ref x0, .int x1] (FX11_nettles x0 x1) := s_of pn_X11 (Nat.le_of_ble_eq_true rfl) fun n => FX11_nettles_ok x0 x1
def UX11_sewn_28 (s0 : Nat) (s1 : Int32) : qP Int32 :=
qb (qcl 11 s0) fun _ => qb (FX11_counted s0 s1) fun v1 =>
qr v1
set_option maxRecDepth 100000 in
set_option maxHeartbeats 4000000 in
theorem UX11_sewn_28_ok {l : Launch} {g : qG} {d n : Nat} (s0 : Nat) (s1 : Int32) : qS l g mX11_sewn (d + 1) n 0 0 0 0 cvI 28 [] [.int s1, .ref s0] (UX11_sewn_28 s0 s1) := by
  unfold UX11_sewn_28
  refine s_virtI (as := [.int s1]) (rest := []) dX11_sewn_28 vX11_58 (CX11_counted _ _) (Nat.le_of_ble_eq_true rfl) ⟨Nat.le_refl _, Nat.le_refl _⟩ fun v1 => ?_
  exact s_ireturn dX11_sewn_31 rfl rfl
def FX11_sewn (x0 : Nat) (x1 : Int32) : qP Int32 :=
qb (gR 11 x0 0) fun v1 =>
qb (qcl 2 v1) fun _ => qb (FX2_hasShirt v1 x1) fun v2 =>
if v2 = 0 then (
UX11_sewn_28 x0 (-2 : Int32)) else (
qb (gR 11 x0 0) fun v3 =>
qb (gR 2 v3 6) fun v4 =>
qb (aI v4 ((3 : Int32) + x1)) fun v5 =>
UX11_sewn_28 x0 v5)
set_option maxRecDepth 100000 in
set_option maxHeartbeats 4000000 in
theorem FX11_sewn_ok {l : Launch} {g : qG} {d n : Nat} (x0 : Nat) (x1 : Int32) : qS l g mX11_sewn (d + 1) n 0 0 0 0 cvI 0 [(0, .ref x0), (1, .int x1)] [] (FX11_sewn x0 x1) := by
  unfold FX11_sewn
  refine s_aload_n dX11_sewn_0 rfl ?_
  refine s_aload_n dX11_sewn_1 rfl ?_
  refine s_gR dX11_sewn_2 fX11_10 fun v1 => ?_
  refine s_iload_n dX11_sewn_5 rfl ?_
  refine s_virtI (as := [.int x1]) (rest := [.ref x0]) dX11_sewn_6 vX11_80 (CX2_hasShirt _ _) (Nat.le_of_ble_eq_true rfl) ⟨Nat.le_refl _, Nat.le_refl _⟩ fun v2 => ?_
  refine s_if_eq (tgt := 26) dX11_sewn_9 (by decide) (fun c1 => ?_) (fun c1 => ?_)
  · refine s_bipush (v := -2) dX11_sewn_26 (by decide) ?_
    refine s_locals [] rfl ?_
    exact UX11_sewn_28_ok x0 (-2 : Int32)
  · refine s_aload_n dX11_sewn_12 rfl ?_
    refine s_gR dX11_sewn_13 fX11_10 fun v3 => ?_
    refine s_gR dX11_sewn_16 fX11_76 fun v4 => ?_
    refine s_iconst (v := 3) dX11_sewn_19 (by decide) ?_
    refine s_iload_n dX11_sewn_20 rfl ?_
    refine s_iadd dX11_sewn_21 ?_
    refine s_aI dX11_sewn_22 fun v5 => ?_
    refine s_goto (tgt := 28) dX11_sewn_23 (by decide) ?_
    refine s_locals [] rfl ?_
    exact UX11_sewn_28_ok x0 v5
theorem CX11_sewn {l : Launch} {g : qG} {d : Nat} (x0 : Nat) (x1 : Int32) : qCt l g mX11_sewn (d + 1) 0 0 cvI [.ref x0, .int x1] (FX11_sewn x0 x1) := s_of pn_X11 (Nat.le_of_ble_eq_true rfl) fun n => FX11_sewn_ok x0 x1
def UX11_has_36 (s0 : Nat) (s1 : Int32) : qP Int32 :=
qb (qcl 11 s0) fun _ => qb (FX11_counted s0 s1) fun v1 =>
qr v1
set_option maxRecDepth 100000 in
set_option maxHeartbeats 4000000 in
theorem UX11_has_36_ok {l : Launch} {g : qG} {d n : Nat} (s0 : Nat) (s1 : Int32) : qS l g mX11_has (d + 1) n 0 0 0 0 cvI 36 [] [.int s1, .ref s0] (UX11_has_36 s0 s1) := by
  unfold UX11_has_36
  refine s_virtI (as := [.int s1]) (rest := []) dX11_has_36 vX11_58 (CX11_counted _ _) (Nat.le_of_ble_eq_true rfl) ⟨Nat.le_refl _, Nat.le_refl _⟩ fun v1 => ?_
  exact s_ireturn dX11_has_39 rfl rfl
def FX11_has (x0 : Nat) (x1 : Int32) : qP Int32 :=
if x1 = 0 then (
qb (gR 11 x0 0) fun v1 =>
qb (gR 2 v1 6) fun v2 =>
qb (aI v2 (7 : Int32)) fun v3 =>
qr v3) else (
if x1 = (1 : Int32) then (
qb (gR 11 x0 0) fun v4 =>
qb (gR 2 v4 6) fun v5 =>
qb (aI v5 (8 : Int32)) fun v6 =>
UX11_has_36 x0 v6) else (
UX11_has_36 x0 (-2 : Int32)))
set_option maxRecDepth 100000 in
set_option maxHeartbeats 4000000 in
theorem FX11_has_ok {l : Launch} {g : qG} {d n : Nat} (x0 : Nat) (x1 : Int32) : qS l g mX11_has (d + 1) n 0 0 0 0 cvI 0 [(0, .ref x0), (1, .int x1)] [] (FX11_has x0 x1) := by
  unfold FX11_has
  refine s_iload_n dX11_has_0 rfl ?_
  refine s_if_ne (tgt := 15) dX11_has_1 (by decide) (fun c1 => ?_) (fun c1 => ?_)
  · refine s_aload_n dX11_has_4 rfl ?_
    refine s_gR dX11_has_5 fX11_10 fun v1 => ?_
    refine s_gR dX11_has_8 fX11_76 fun v2 => ?_
    refine s_bipush (v := 7) dX11_has_11 (by decide) ?_
    refine s_aI dX11_has_13 fun v3 => ?_
    exact s_ireturn dX11_has_14 rfl rfl
  · refine s_aload_n dX11_has_15 rfl ?_
    refine s_iload_n dX11_has_16 rfl ?_
    refine s_iconst (v := 1) dX11_has_17 (by decide) ?_
    refine s_icmp_ne (tgt := 34) dX11_has_18 (by decide) (fun c2 => ?_) (fun c2 => ?_)
    · refine s_aload_n dX11_has_21 rfl ?_
      refine s_gR dX11_has_22 fX11_10 fun v4 => ?_
      refine s_gR dX11_has_25 fX11_76 fun v5 => ?_
      refine s_bipush (v := 8) dX11_has_28 (by decide) ?_
      refine s_aI dX11_has_30 fun v6 => ?_
      refine s_goto (tgt := 36) dX11_has_31 (by decide) ?_
      refine s_locals [] rfl ?_
      exact UX11_has_36_ok x0 v6
    · refine s_bipush (v := -2) dX11_has_34 (by decide) ?_
      refine s_locals [] rfl ?_
      exact UX11_has_36_ok x0 (-2 : Int32)
theorem CX11_has {l : Launch} {g : qG} {d : Nat} (x0 : Nat) (x1 : Int32) : qCt l g mX11_has (d + 1) 0 0 cvI [.ref x0, .int x1] (FX11_has x0 x1) := s_of pn_X11 (Nat.le_of_ble_eq_true rfl) fun n => FX11_has_ok x0 x1
def FX11_within (x0 : Int32) (x1 : Int32) (x2 : Int32) : qP Int32 :=
if x0 < x1 then (
qr (0 : Int32)) else (
if x2 < x0 then (
qr (0 : Int32)) else (
qr (1 : Int32)))
set_option maxRecDepth 100000 in
set_option maxHeartbeats 4000000 in
theorem FX11_within_ok {l : Launch} {g : qG} {d n : Nat} (x0 : Int32) (x1 : Int32) (x2 : Int32) : qS l g mX11_within d n 0 0 0 0 cvI 0 [(0, .int x0), (1, .int x1), (2, .int x2)] [] (FX11_within x0 x1 x2) := by
  unfold FX11_within
  refine s_iload_n dX11_within_0 rfl ?_
  refine s_iload_n dX11_within_1 rfl ?_
  refine s_icmp_lt (tgt := 14) dX11_within_2 (by decide) (fun c1 => ?_) (fun c1 => ?_)
  · refine s_iconst (v := 0) dX11_within_14 (by decide) ?_
    exact s_ireturn dX11_within_15 rfl (by decide)
  · refine s_iload_n dX11_within_5 rfl ?_
    refine s_iload_n dX11_within_6 rfl ?_
    refine s_icmp_gt (tgt := 14) dX11_within_7 (by decide) (fun c2 => ?_) (fun c2 => ?_)
    · refine s_iconst (v := 0) dX11_within_14 (by decide) ?_
      exact s_ireturn dX11_within_15 rfl (by decide)
    · refine s_iconst (v := 1) dX11_within_10 (by decide) ?_
      refine s_goto (tgt := 15) dX11_within_11 (by decide) ?_
      exact s_ireturn dX11_within_15 rfl (by decide)
theorem CX11_within {l : Launch} {g : qG} {d : Nat} (x0 : Int32) (x1 : Int32) (x2 : Int32) : qCt l g mX11_within d 0 0 cvI [.int x0, .int x1, .int x2] (FX11_within x0 x1 x2) := s_of pn_X11 (Nat.le_of_ble_eq_true rfl) fun n => FX11_within_ok x0 x1 x2
def FX11_badAsked (x0 : Nat) : qP Int32 :=
qb (gI 11 x0 7) fun v1 =>
qb (pV 11 x0 7 (.int (v1 + (1 : Int32)))) fun _ =>
qr (-10 : Int32)
set_option maxRecDepth 100000 in
set_option maxHeartbeats 4000000 in
theorem FX11_badAsked_ok {l : Launch} {g : qG} {d n : Nat} (x0 : Nat) : qS l g mX11_badAsked d n 0 0 0 0 cvI 0 [(0, .ref x0)] [] (FX11_badAsked x0) := by
  unfold FX11_badAsked
  refine s_aload_n dX11_badAsked_0 rfl ?_
  refine s_dup dX11_badAsked_1 rfl ?_
  refine s_gI dX11_badAsked_2 fX11_44 fun v1 => ?_
  refine s_iconst (v := 1) dX11_badAsked_5 (by decide) ?_
  refine s_iadd dX11_badAsked_6 ?_
  refine s_put dX11_badAsked_7 fX11_44 rfl rfl ?_
  refine s_bipush (v := -10) dX11_badAsked_10 (by decide) ?_
  exact s_ireturn dX11_badAsked_12 rfl rfl
theorem CX11_badAsked {l : Launch} {g : qG} {d : Nat} (x0 : Nat) : qCt l g mX11_badAsked d 0 0 cvI [.ref x0] (FX11_badAsked x0) := s_of pn_X11 (Nat.le_of_ble_eq_true rfl) fun n => FX11_badAsked_ok x0
def UX11_plan_14 (x0 : Nat) : qP Int32 :=
qb (qcl 11 x0) fun _ => qb (FX11_badAsked x0) fun v1 =>
qr v1
set_option maxRecDepth 100000 in
set_option maxHeartbeats 4000000 in
theorem UX11_plan_14_ok {l : Launch} {g : qG} {d n : Nat} (x0 : Nat) : qS l g mX11_plan (d + 13) n 0 0 0 0 cvI 14 [(0, .ref x0)] [] (UX11_plan_14 x0) := by
  unfold UX11_plan_14
  refine s_aload_n dX11_plan_14 rfl ?_
  refine s_virtI (as := []) (rest := []) dX11_plan_15 vX11_87 (CX11_badAsked _) (Nat.le_of_ble_eq_true rfl) ⟨Nat.le_refl _, Nat.le_refl _⟩ fun v1 => ?_
  exact s_ireturn dX11_plan_18 rfl rfl
def FX11_plan (x0 : Nat) (x1 : Int32) (x2 : Int32) : qP Int32 :=
qb (FX11_within x1 (0 : Int32) (5 : Int32)) fun v1 =>
if v1 = 0 then (
UX11_plan_14 x0) else (
if (-1 : Int32) ≤ x2 then (
qb (gR 11 x0 3) fun v2 =>
qb (gR 11 x0 0) fun v3 =>
qb (qcl 4 v2) fun _ => qb (FX4_search v2 v3 x1 (0 : Int32) (0 : Int32)) fun v4 =>
if x2 = (-1 : Int32) then (
qr v4) else (
qb (gR 11 x0 3) fun v5 =>
qb (qcl 4 v5) fun _ => qb (FX4_chosen v5 x2) fun v6 =>
qr v6)) else (
UX11_plan_14 x0))
set_option maxRecDepth 100000 in
set_option maxHeartbeats 4000000 in
theorem FX11_plan_ok {l : Launch} {g : qG} {d n : Nat} (x0 : Nat) (x1 : Int32) (x2 : Int32) : qS l g mX11_plan (d + 13) n 0 0 0 0 cvI 0 [(0, .ref x0), (1, .int x1), (2, .int x2)] [] (FX11_plan x0 x1 x2) := by
  unfold FX11_plan
  refine s_iload_n dX11_plan_0 rfl ?_
  refine s_iconst (v := 0) dX11_plan_1 (by decide) ?_
  refine s_iconst (v := 5) dX11_plan_2 (by decide) ?_
  refine s_staticI (as := [.int x1, .int (0 : Int32), .int (5 : Int32)]) (rest := []) dX11_plan_3 sX11_83 (CX11_within _ _ _) (Nat.le_of_ble_eq_true rfl) ⟨Nat.le_refl _, Nat.le_refl _⟩ fun v1 => ?_
  refine s_if_eq (tgt := 14) dX11_plan_6 (by decide) (fun c1 => ?_) (fun c1 => ?_)
  · refine s_locals [0] rfl ?_
    exact UX11_plan_14_ok x0
  · refine s_iload_n dX11_plan_9 rfl ?_
    refine s_iconst (v := -1) dX11_plan_10 (by decide) ?_
    refine s_icmp_ge (tgt := 19) dX11_plan_11 (by decide) (fun c2 => ?_) (fun c2 => ?_)
    · refine s_aload_n dX11_plan_19 rfl ?_
      refine s_gR dX11_plan_20 fX11_26 fun v2 => ?_
      refine s_aload_n dX11_plan_23 rfl ?_
      refine s_gR dX11_plan_24 fX11_10 fun v3 => ?_
      refine s_iload_n dX11_plan_27 rfl ?_
      refine s_iconst (v := 0) dX11_plan_28 (by decide) ?_
      refine s_iconst (v := 0) dX11_plan_29 (by decide) ?_
      refine s_virtI (as := [.ref v3, .int x1, .int (0 : Int32), .int (0 : Int32)]) (rest := []) dX11_plan_30 vX11_90 (CX4_search _ _ _ _ _) (Nat.le_of_ble_eq_true rfl) ⟨Nat.le_refl _, Nat.le_refl _⟩ fun v4 => ?_
      refine s_istore_n (lv' := [(3, .int v4), (0, .ref x0), (1, .int x1), (2, .int x2)]) dX11_plan_33 (by decide) rfl ?_
      refine s_iload_n dX11_plan_34 rfl ?_
      refine s_iconst (v := -1) dX11_plan_35 (by decide) ?_
      refine s_icmp_ne (tgt := 43) dX11_plan_36 (by decide) (fun c3 => ?_) (fun c3 => ?_)
      · refine s_iload_n dX11_plan_39 rfl ?_
        refine s_goto (tgt := 51) dX11_plan_40 (by decide) ?_
        exact s_ireturn dX11_plan_51 rfl rfl
      · refine s_aload_n dX11_plan_43 rfl ?_
        refine s_gR dX11_plan_44 fX11_26 fun v5 => ?_
        refine s_iload_n dX11_plan_47 rfl ?_
        refine s_virtI (as := [.int x2]) (rest := []) dX11_plan_48 vX11_94 (CX4_chosen _ _) (Nat.le_of_ble_eq_true rfl) ⟨Nat.le_refl _, Nat.le_refl _⟩ fun v6 => ?_
        exact s_ireturn dX11_plan_51 rfl rfl
    · refine s_locals [0] rfl ?_
      exact UX11_plan_14_ok x0
theorem CX11_plan {l : Launch} {g : qG} {d : Nat} (x0 : Nat) (x1 : Int32) (x2 : Int32) : qCt l g mX11_plan (d + 13) 0 0 cvI [.ref x0, .int x1, .int x2] (FX11_plan x0 x1 x2) := s_of pn_X11 (Nat.le_of_ble_eq_true rfl) fun n => FX11_plan_ok x0 x1 x2
def UX11_inTime_25 (x0 : Nat) : qP Int32 :=
qb (qcl 11 x0) fun _ => qb (FX11_badAsked x0) fun v1 =>
qr v1
set_option maxRecDepth 100000 in
set_option maxHeartbeats 4000000 in
theorem UX11_inTime_25_ok {l : Launch} {g : qG} {d n : Nat} (x0 : Nat) : qS l g mX11_inTime (d + 13) n 0 0 0 0 cvI 25 [(0, .ref x0)] [] (UX11_inTime_25 x0) := by
  unfold UX11_inTime_25
  refine s_aload_n dX11_inTime_25 rfl ?_
  refine s_virtI (as := []) (rest := []) dX11_inTime_26 vX11_87 (CX11_badAsked _) (Nat.le_of_ble_eq_true rfl) ⟨Nat.le_refl _, Nat.le_refl _⟩ fun v1 => ?_
  exact s_ireturn dX11_inTime_29 rfl rfl
def FX11_inTime (x0 : Nat) (x1 : Int32) (x2 : Int32) (x3 : Int32) : qP Int32 :=
qb (FX11_within x1 (0 : Int32) (5 : Int32)) fun v1 =>
if v1 = 0 then (
UX11_inTime_25 x0) else (
qb (gR 11 x0 0) fun v2 =>
qb (qcl 2 v2) fun _ => qb (FX2_areShirts v2 x2) fun v3 =>
if v3 = 0 then (
UX11_inTime_25 x0) else (
if (-1 : Int32) ≤ x3 then (
qb (gR 11 x0 3) fun v4 =>
qb (gR 11 x0 0) fun v5 =>
qb (qcl 4 v4) fun _ => qb (FX4_search v4 v5 x1 x2 (0 : Int32)) fun v6 =>
if v6 = (-1 : Int32) then (
qr v6) else (
if x3 = (-1 : Int32) then (
qr v6) else (
qb (gR 11 x0 3) fun v7 =>
qb (qcl 4 v7) fun _ => qb (FX4_chosen v7 x3) fun v8 =>
qr v8))) else (
UX11_inTime_25 x0)))
set_option maxRecDepth 100000 in
set_option maxHeartbeats 4000000 in
theorem FX11_inTime_ok {l : Launch} {g : qG} {d n : Nat} (x0 : Nat) (x1 : Int32) (x2 : Int32) (x3 : Int32) : qS l g mX11_inTime (d + 13) n 0 0 0 0 cvI 0 [(0, .ref x0), (1, .int x1), (2, .int x2), (3, .int x3)] [] (FX11_inTime x0 x1 x2 x3) := by
  unfold FX11_inTime
  refine s_iload_n dX11_inTime_0 rfl ?_
  refine s_iconst (v := 0) dX11_inTime_1 (by decide) ?_
  refine s_iconst (v := 5) dX11_inTime_2 (by decide) ?_
  refine s_staticI (as := [.int x1, .int (0 : Int32), .int (5 : Int32)]) (rest := []) dX11_inTime_3 sX11_83 (CX11_within _ _ _) (Nat.le_of_ble_eq_true rfl) ⟨Nat.le_refl _, Nat.le_refl _⟩ fun v1 => ?_
  refine s_if_eq (tgt := 25) dX11_inTime_6 (by decide) (fun c1 => ?_) (fun c1 => ?_)
  · refine s_locals [0] rfl ?_
    exact UX11_inTime_25_ok x0
  · refine s_aload_n dX11_inTime_9 rfl ?_
    refine s_gR dX11_inTime_10 fX11_10 fun v2 => ?_
    refine s_iload_n dX11_inTime_13 rfl ?_
    refine s_virtI (as := [.int x2]) (rest := []) dX11_inTime_14 vX11_97 (CX2_areShirts _ _) (Nat.le_of_ble_eq_true rfl) ⟨Nat.le_refl _, Nat.le_refl _⟩ fun v3 => ?_
    refine s_if_eq (tgt := 25) dX11_inTime_17 (by decide) (fun c2 => ?_) (fun c2 => ?_)
    · refine s_locals [0] rfl ?_
      exact UX11_inTime_25_ok x0
    · refine s_iload_n dX11_inTime_20 rfl ?_
      refine s_iconst (v := -1) dX11_inTime_21 (by decide) ?_
      refine s_icmp_ge (tgt := 30) dX11_inTime_22 (by decide) (fun c3 => ?_) (fun c3 => ?_)
      · refine s_aload_n dX11_inTime_30 rfl ?_
        refine s_gR dX11_inTime_31 fX11_26 fun v4 => ?_
        refine s_aload_n dX11_inTime_34 rfl ?_
        refine s_gR dX11_inTime_35 fX11_10 fun v5 => ?_
        refine s_iload_n dX11_inTime_38 rfl ?_
        refine s_iload_n dX11_inTime_39 rfl ?_
        refine s_iconst (v := 0) dX11_inTime_40 (by decide) ?_
        refine s_virtI (as := [.ref v5, .int x1, .int x2, .int (0 : Int32)]) (rest := []) dX11_inTime_41 vX11_90 (CX4_search _ _ _ _ _) (Nat.le_of_ble_eq_true rfl) ⟨Nat.le_refl _, Nat.le_refl _⟩ fun v6 => ?_
        refine s_istore (lv' := [(4, .int v6), (0, .ref x0), (1, .int x1), (2, .int x2), (3, .int x3)]) dX11_inTime_44 (by decide) rfl ?_
        refine s_iload dX11_inTime_46 rfl ?_
        refine s_iconst (v := -1) dX11_inTime_48 (by decide) ?_
        refine s_icmp_eq (tgt := 57) dX11_inTime_49 (by decide) (fun c4 => ?_) (fun c4 => ?_)
        · refine s_iload dX11_inTime_57 rfl ?_
          refine s_goto (tgt := 70) dX11_inTime_59 (by decide) ?_
          exact s_ireturn dX11_inTime_70 rfl rfl
        · refine s_iload_n dX11_inTime_52 rfl ?_
          refine s_iconst (v := -1) dX11_inTime_53 (by decide) ?_
          refine s_icmp_ne (tgt := 62) dX11_inTime_54 (by decide) (fun c5 => ?_) (fun c5 => ?_)
          · refine s_iload dX11_inTime_57 rfl ?_
            refine s_goto (tgt := 70) dX11_inTime_59 (by decide) ?_
            exact s_ireturn dX11_inTime_70 rfl rfl
          · refine s_aload_n dX11_inTime_62 rfl ?_
            refine s_gR dX11_inTime_63 fX11_26 fun v7 => ?_
            refine s_iload_n dX11_inTime_66 rfl ?_
            refine s_virtI (as := [.int x3]) (rest := []) dX11_inTime_67 vX11_94 (CX4_chosen _ _) (Nat.le_of_ble_eq_true rfl) ⟨Nat.le_refl _, Nat.le_refl _⟩ fun v8 => ?_
            exact s_ireturn dX11_inTime_70 rfl rfl
      · refine s_locals [0] rfl ?_
        exact UX11_inTime_25_ok x0
theorem CX11_inTime {l : Launch} {g : qG} {d : Nat} (x0 : Nat) (x1 : Int32) (x2 : Int32) (x3 : Int32) : qCt l g mX11_inTime (d + 13) 0 0 cvI [.ref x0, .int x1, .int x2, .int x3] (FX11_inTime x0 x1 x2 x3) := s_of pn_X11 (Nat.le_of_ble_eq_true rfl) fun n => FX11_inTime_ok x0 x1 x2 x3
def UX11_fewest_20 (R : Nat → Int32 → Int32 → qP Int32) (x0 : Nat) (x1 : Int32) (x2 : Int32) : qP Int32 :=
if (5 : Int32) < x2 then (
qr (-1 : Int32)) else (
qb (gR 11 x0 3) fun v1 =>
qb (gR 11 x0 0) fun v2 =>
qb (qcl 4 v1) fun _ => qb (FX4_search v1 v2 x2 x1 (1 : Int32)) fun v3 =>
if v3 = (-1 : Int32) then (
R x0 x1 (x2 + 1)) else (
qr x2))
set_option maxRecDepth 100000 in
set_option maxHeartbeats 4000000 in
theorem UX11_fewest_20_ok {l : Launch} {g : qG} {d n : Nat} {R : Nat → Int32 → Int32 → qP Int32} (hR : ∀ (x0 : Nat) (x1 : Int32) (x2 : Int32), qS l g mX11_fewest (d + 13) n 0 0 0 0 cvI 20 [(0, .ref x0), (1, .int x1), (2, .int x2)] [] (R x0 x1 x2)) (x0 : Nat) (x1 : Int32) (x2 : Int32) : qS l g mX11_fewest (d + 13) n 0 0 0 0 cvI 20 [(0, .ref x0), (1, .int x1), (2, .int x2)] [] (UX11_fewest_20 R x0 x1 x2) := by
  unfold UX11_fewest_20
  refine s_iload_n dX11_fewest_20 rfl ?_
  refine s_iconst (v := 5) dX11_fewest_21 (by decide) ?_
  refine s_icmp_gt (tgt := 51) dX11_fewest_22 (by decide) (fun c1 => ?_) (fun c1 => ?_)
  · refine s_iconst (v := -1) dX11_fewest_51 (by decide) ?_
    exact s_ireturn dX11_fewest_52 rfl rfl
  · refine s_aload_n dX11_fewest_25 rfl ?_
    refine s_gR dX11_fewest_26 fX11_26 fun v1 => ?_
    refine s_aload_n dX11_fewest_29 rfl ?_
    refine s_gR dX11_fewest_30 fX11_10 fun v2 => ?_
    refine s_iload_n dX11_fewest_33 rfl ?_
    refine s_iload_n dX11_fewest_34 rfl ?_
    refine s_iconst (v := 1) dX11_fewest_35 (by decide) ?_
    refine s_virtI (as := [.ref v2, .int x2, .int x1, .int (1 : Int32)]) (rest := []) dX11_fewest_36 vX11_90 (CX4_search _ _ _ _ _) (Nat.le_of_ble_eq_true rfl) ⟨Nat.le_refl _, Nat.le_refl _⟩ fun v3 => ?_
    refine s_iconst (v := -1) dX11_fewest_39 (by decide) ?_
    refine s_icmp_eq (tgt := 45) dX11_fewest_40 (by decide) (fun c2 => ?_) (fun c2 => ?_)
    · refine s_iinc (lv' := [(2, .int (x2 + 1)), (0, .ref x0), (1, .int x1)]) dX11_fewest_45 rfl (by decide) rfl ?_
      refine s_goto (tgt := 20) dX11_fewest_48 (by decide) ?_
      refine s_locals [1, 2, 0] rfl ?_
      exact hR x0 x1 (x2 + 1)
    · refine s_iload_n dX11_fewest_43 rfl ?_
      exact s_ireturn dX11_fewest_44 rfl rfl
def WX11_fewest_20 : Nat → Nat → Int32 → Int32 → qP Int32
  | 0 => fun _ _ _ => qfail
  | N + 1 => fun x0 x1 x2 => UX11_fewest_20 (WX11_fewest_20  N)  x0 x1 x2
theorem WX11_fewest_20_ok {l : Launch} {g : qG} {d n : Nat} : ∀ (N : Nat) (x0 : Nat) (x1 : Int32) (x2 : Int32), qS l g mX11_fewest (d + 13) n 0 0 0 0 cvI 20 [(0, .ref x0), (1, .int x1), (2, .int x2)] [] (WX11_fewest_20  N x0 x1 x2) := by
  intro N
  induction N with
  | zero => intro x0 x1 x2; exact s_fail
  | succ N ih => intro x0 x1 x2; exact UX11_fewest_20_ok ih  x0 x1 x2
def FX11_fewest (x0 : Nat) (x1 : Int32) : qP Int32 :=
qb (gR 11 x0 0) fun v1 =>
qb (qcl 2 v1) fun _ => qb (FX2_areShirts v1 x1) fun v2 =>
if v2 = 0 then (
qb (qcl 11 x0) fun _ => qb (FX11_counted x0 (-2 : Int32)) fun v3 =>
qr v3) else (
WX11_fewest_20 1000000 x0 x1 (0 : Int32))
set_option maxRecDepth 100000 in
set_option maxHeartbeats 4000000 in
theorem FX11_fewest_ok {l : Launch} {g : qG} {d n : Nat} (x0 : Nat) (x1 : Int32) : qS l g mX11_fewest (d + 13) n 0 0 0 0 cvI 0 [(0, .ref x0), (1, .int x1)] [] (FX11_fewest x0 x1) := by
  unfold FX11_fewest
  refine s_aload_n dX11_fewest_0 rfl ?_
  refine s_gR dX11_fewest_1 fX11_10 fun v1 => ?_
  refine s_iload_n dX11_fewest_4 rfl ?_
  refine s_virtI (as := [.int x1]) (rest := []) dX11_fewest_5 vX11_97 (CX2_areShirts _ _) (Nat.le_of_ble_eq_true rfl) ⟨Nat.le_refl _, Nat.le_refl _⟩ fun v2 => ?_
  refine s_if_ne (tgt := 18) dX11_fewest_8 (by decide) (fun c1 => ?_) (fun c1 => ?_)
  · refine s_aload_n dX11_fewest_11 rfl ?_
    refine s_bipush (v := -2) dX11_fewest_12 (by decide) ?_
    refine s_virtI (as := [.int (-2 : Int32)]) (rest := []) dX11_fewest_14 vX11_58 (CX11_counted _ _) (Nat.le_of_ble_eq_true rfl) ⟨Nat.le_refl _, Nat.le_refl _⟩ fun v3 => ?_
    exact s_ireturn dX11_fewest_17 rfl rfl
  · refine s_iconst (v := 0) dX11_fewest_18 (by decide) ?_
    refine s_istore_n (lv' := [(2, .int (0 : Int32)), (0, .ref x0), (1, .int x1)]) dX11_fewest_19 (by decide) rfl ?_
    refine s_locals [1, 2, 0] rfl ?_
    exact WX11_fewest_20_ok  1000000 x0 x1 (0 : Int32)
theorem CX11_fewest {l : Launch} {g : qG} {d : Nat} (x0 : Nat) (x1 : Int32) : qCt l g mX11_fewest (d + 13) 0 0 cvI [.ref x0, .int x1] (FX11_fewest x0 x1) := s_of pn_X11 (Nat.le_of_ble_eq_true rfl) fun n => FX11_fewest_ok x0 x1
def UX11_left_18 (x0 : Nat) : qP Int32 :=
qb (qcl 11 x0) fun _ => qb (FX11_badAsked x0) fun v1 =>
qr v1
set_option maxRecDepth 100000 in
set_option maxHeartbeats 4000000 in
theorem UX11_left_18_ok {l : Launch} {g : qG} {d n : Nat} (x0 : Nat) : qS l g mX11_left (d + 13) n 0 0 0 0 cvI 18 [(0, .ref x0)] [] (UX11_left_18 x0) := by
  unfold UX11_left_18
  refine s_aload_n dX11_left_18 rfl ?_
  refine s_virtI (as := []) (rest := []) dX11_left_19 vX11_87 (CX11_badAsked _) (Nat.le_of_ble_eq_true rfl) ⟨Nat.le_refl _, Nat.le_refl _⟩ fun v1 => ?_
  exact s_ireturn dX11_left_22 rfl rfl
def FX11_left (x0 : Nat) (x1 : Int32) (x2 : Int32) : qP Int32 :=
qb (FX11_within x1 (0 : Int32) (5 : Int32)) fun v1 =>
if v1 = 0 then (
UX11_left_18 x0) else (
qb (FX11_within x2 (0 : Int32) (1 : Int32)) fun v2 =>
if v2 = 0 then (
UX11_left_18 x0) else (
qb (gR 11 x0 3) fun v3 =>
qb (gR 11 x0 0) fun v4 =>
qb (qcl 4 v3) fun _ => qb (FX4_search v3 v4 x1 (0 : Int32) (0 : Int32)) fun v5 =>
qb (gR 11 x0 3) fun v6 =>
qb (gR 11 x0 0) fun v7 =>
qb (qcl 4 v6) fun _ => qb (FX4_behindChosen v6 v7) fun v8 =>
if x2 = 0 then (
qb (gR 11 x0 0) fun v9 =>
qb (qcl 2 v9) fun _ => qb (FX2_lacking v9 v8) fun v10 =>
qr v10) else (
qb (gR 11 x0 0) fun v11 =>
qb (qcl 2 v11) fun _ => qb (FX2_mostLacking v11 v8) fun v12 =>
qr v12)))
set_option maxRecDepth 100000 in
set_option maxHeartbeats 4000000 in
theorem FX11_left_ok {l : Launch} {g : qG} {d n : Nat} (x0 : Nat) (x1 : Int32) (x2 : Int32) : qS l g mX11_left (d + 13) n 0 0 0 0 cvI 0 [(0, .ref x0), (1, .int x1), (2, .int x2)] [] (FX11_left x0 x1 x2) := by
  unfold FX11_left
  refine s_iload_n dX11_left_0 rfl ?_
  refine s_iconst (v := 0) dX11_left_1 (by decide) ?_
  refine s_iconst (v := 5) dX11_left_2 (by decide) ?_
  refine s_staticI (as := [.int x1, .int (0 : Int32), .int (5 : Int32)]) (rest := []) dX11_left_3 sX11_83 (CX11_within _ _ _) (Nat.le_of_ble_eq_true rfl) ⟨Nat.le_refl _, Nat.le_refl _⟩ fun v1 => ?_
  refine s_if_eq (tgt := 18) dX11_left_6 (by decide) (fun c1 => ?_) (fun c1 => ?_)
  · refine s_locals [0] rfl ?_
    exact UX11_left_18_ok x0
  · refine s_iload_n dX11_left_9 rfl ?_
    refine s_iconst (v := 0) dX11_left_10 (by decide) ?_
    refine s_iconst (v := 1) dX11_left_11 (by decide) ?_
    refine s_staticI (as := [.int x2, .int (0 : Int32), .int (1 : Int32)]) (rest := []) dX11_left_12 sX11_83 (CX11_within _ _ _) (Nat.le_of_ble_eq_true rfl) ⟨Nat.le_refl _, Nat.le_refl _⟩ fun v2 => ?_
    refine s_if_ne (tgt := 23) dX11_left_15 (by decide) (fun c2 => ?_) (fun c2 => ?_)
    · refine s_locals [0] rfl ?_
      exact UX11_left_18_ok x0
    · refine s_aload_n dX11_left_23 rfl ?_
      refine s_gR dX11_left_24 fX11_26 fun v3 => ?_
      refine s_aload_n dX11_left_27 rfl ?_
      refine s_gR dX11_left_28 fX11_10 fun v4 => ?_
      refine s_iload_n dX11_left_31 rfl ?_
      refine s_iconst (v := 0) dX11_left_32 (by decide) ?_
      refine s_iconst (v := 0) dX11_left_33 (by decide) ?_
      refine s_virtI (as := [.ref v4, .int x1, .int (0 : Int32), .int (0 : Int32)]) (rest := []) dX11_left_34 vX11_90 (CX4_search _ _ _ _ _) (Nat.le_of_ble_eq_true rfl) ⟨Nat.le_refl _, Nat.le_refl _⟩ fun v5 => ?_
      refine s_pop dX11_left_37 rfl ?_
      refine s_aload_n dX11_left_38 rfl ?_
      refine s_gR dX11_left_39 fX11_26 fun v6 => ?_
      refine s_aload_n dX11_left_42 rfl ?_
      refine s_gR dX11_left_43 fX11_10 fun v7 => ?_
      refine s_virtR (as := [.ref v7]) (rest := []) dX11_left_46 vX11_100 (CX4_behindChosen _ _) (Nat.le_of_ble_eq_true rfl) ⟨Nat.le_refl _, Nat.le_refl _⟩ fun v8 => ?_
      refine s_astore_n (lv' := [(3, .ref v8), (0, .ref x0), (1, .int x1), (2, .int x2)]) dX11_left_49 (by decide) rfl ?_
      refine s_iload_n dX11_left_50 rfl ?_
      refine s_if_ne (tgt := 65) dX11_left_51 (by decide) (fun c3 => ?_) (fun c3 => ?_)
      · refine s_aload_n dX11_left_54 rfl ?_
        refine s_gR dX11_left_55 fX11_10 fun v9 => ?_
        refine s_aload_n dX11_left_58 rfl ?_
        refine s_virtI (as := [.ref v8]) (rest := []) dX11_left_59 vX11_104 (CX2_lacking _ _) (Nat.le_of_ble_eq_true rfl) ⟨Nat.le_refl _, Nat.le_refl _⟩ fun v10 => ?_
        refine s_goto (tgt := 73) dX11_left_62 (by decide) ?_
        exact s_ireturn dX11_left_73 rfl rfl
      · refine s_aload_n dX11_left_65 rfl ?_
        refine s_gR dX11_left_66 fX11_10 fun v11 => ?_
        refine s_aload_n dX11_left_69 rfl ?_
        refine s_virtI (as := [.ref v8]) (rest := []) dX11_left_70 vX11_108 (CX2_mostLacking _ _) (Nat.le_of_ble_eq_true rfl) ⟨Nat.le_refl _, Nat.le_refl _⟩ fun v12 => ?_
        exact s_ireturn dX11_left_73 rfl rfl
theorem CX11_left {l : Launch} {g : qG} {d : Nat} (x0 : Nat) (x1 : Int32) (x2 : Int32) : qCt l g mX11_left (d + 13) 0 0 cvI [.ref x0, .int x1, .int x2] (FX11_left x0 x1 x2) := s_of pn_X11 (Nat.le_of_ble_eq_true rfl) fun n => FX11_left_ok x0 x1 x2
def UX11_power_5 (R : Int32 → Int32 → Int64 → Int32 → qP Int64) (x0 : Int32) (x1 : Int32) (x2 : Int64) (x4 : Int32) : qP Int64 :=
if x1 ≤ x4 then (
qr x2) else (
R x0 x1 (x2 * (x0).toInt64) (x4 + 1))
set_option maxRecDepth 100000 in
set_option maxHeartbeats 4000000 in
theorem UX11_power_5_ok {l : Launch} {g : qG} {d n : Nat} {R : Int32 → Int32 → Int64 → Int32 → qP Int64} (hR : ∀ (x0 : Int32) (x1 : Int32) (x2 : Int64) (x4 : Int32), qS l g mX11_power d n 0 0 0 0 cvL 5 [(0, .int x0), (1, .int x1), (2, .long x2), (4, .int x4)] [] (R x0 x1 x2 x4)) (x0 : Int32) (x1 : Int32) (x2 : Int64) (x4 : Int32) : qS l g mX11_power d n 0 0 0 0 cvL 5 [(0, .int x0), (1, .int x1), (2, .long x2), (4, .int x4)] [] (UX11_power_5 R x0 x1 x2 x4) := by
  unfold UX11_power_5
  refine s_iload dX11_power_5 rfl ?_
  refine s_iload_n dX11_power_7 rfl ?_
  refine s_icmp_ge (tgt := 22) dX11_power_8 (by decide) (fun c1 => ?_) (fun c1 => ?_)
  · refine s_lload_n dX11_power_22 rfl ?_
    exact s_lreturn dX11_power_23 rfl
  · refine s_lload_n dX11_power_11 rfl ?_
    refine s_iload_n dX11_power_12 rfl ?_
    refine s_i2l dX11_power_13 ?_
    refine s_lmul dX11_power_14 ?_
    refine s_lstore_n (lv' := [(2, .long (x2 * (x0).toInt64)), (0, .int x0), (1, .int x1), (4, .int x4)]) dX11_power_15 (by decide) rfl ?_
    refine s_iinc (lv' := [(4, .int (x4 + 1)), (2, .long (x2 * (x0).toInt64)), (0, .int x0), (1, .int x1)]) dX11_power_16 rfl (by decide) rfl ?_
    refine s_goto (tgt := 5) dX11_power_19 (by decide) ?_
    refine s_locals [2, 3, 1, 0] rfl ?_
    exact hR x0 x1 (x2 * (x0).toInt64) (x4 + 1)
def WX11_power_5 : Nat → Int32 → Int32 → Int64 → Int32 → qP Int64
  | 0 => fun _ _ _ _ => qfail
  | N + 1 => fun x0 x1 x2 x4 => UX11_power_5 (WX11_power_5  N)  x0 x1 x2 x4
theorem WX11_power_5_ok {l : Launch} {g : qG} {d n : Nat} : ∀ (N : Nat) (x0 : Int32) (x1 : Int32) (x2 : Int64) (x4 : Int32), qS l g mX11_power d n 0 0 0 0 cvL 5 [(0, .int x0), (1, .int x1), (2, .long x2), (4, .int x4)] [] (WX11_power_5  N x0 x1 x2 x4) := by
  intro N
  induction N with
  | zero => intro x0 x1 x2 x4; exact s_fail
  | succ N ih => intro x0 x1 x2 x4; exact UX11_power_5_ok ih  x0 x1 x2 x4
def FX11_power (x0 : Int32) (x1 : Int32) : qP Int64 :=
WX11_power_5 1000000 x0 x1 (1 : Int64) (0 : Int32)
set_option maxRecDepth 100000 in
set_option maxHeartbeats 4000000 in
theorem FX11_power_ok {l : Launch} {g : qG} {d n : Nat} (x0 : Int32) (x1 : Int32) : qS l g mX11_power d n 0 0 0 0 cvL 0 [(0, .int x0), (1, .int x1)] [] (FX11_power x0 x1) := by
  unfold FX11_power
  refine s_lconst (v := 1) dX11_power_0 (by decide) ?_
  refine s_lstore_n (lv' := [(2, .long (1 : Int64)), (0, .int x0), (1, .int x1)]) dX11_power_1 (by decide) rfl ?_
  refine s_iconst (v := 0) dX11_power_2 (by decide) ?_
  refine s_istore (lv' := [(4, .int (0 : Int32)), (2, .long (1 : Int64)), (0, .int x0), (1, .int x1)]) dX11_power_3 (by decide) rfl ?_
  refine s_locals [2, 3, 1, 0] rfl ?_
  exact WX11_power_5_ok  1000000 x0 x1 (1 : Int64) (0 : Int32)
theorem CX11_power {l : Launch} {g : qG} {d : Nat} (x0 : Int32) (x1 : Int32) : qCt l g mX11_power d 0 0 cvL [.int x0, .int x1] (FX11_power x0 x1) := s_of pn_X11 (Nat.le_of_ble_eq_true rfl) fun n => FX11_power_ok x0 x1
def UX11_waysOfFewer_8 (R : Int32 → Int32 → Int32 → Int64 → Int64 → Int32 → qP Int64) (x0 : Int32) (x1 : Int32) (x2 : Int32) (x3 : Int64) (x5 : Int64) (x7 : Int32) : qP Int64 :=
if x2 ≤ x7 then (
qr x3) else (
if x1 < x7 then (
qr x3) else (
qb (FX11_power x0 x7) fun v1 =>
qb (FX11_power ((10 : Int32) - x0) (x1 - x7)) fun v2 =>
qgd (¬ ((x7 + (1 : Int32))).toInt64 = 0) (
R x0 x1 x2 (x3 + ((x5 * v1) * v2)) ((x5 * ((x1 - x7)).toInt64) / ((x7 + (1 : Int32))).toInt64) (x7 + 1))))
set_option maxRecDepth 100000 in
set_option maxHeartbeats 4000000 in
theorem UX11_waysOfFewer_8_ok {l : Launch} {g : qG} {d n : Nat} {R : Int32 → Int32 → Int32 → Int64 → Int64 → Int32 → qP Int64} (hR : ∀ (x0 : Int32) (x1 : Int32) (x2 : Int32) (x3 : Int64) (x5 : Int64) (x7 : Int32), qS l g mX11_waysOfFewer (d + 1) n 0 0 0 0 cvL 8 [(0, .int x0), (1, .int x1), (2, .int x2), (3, .long x3), (5, .long x5), (7, .int x7)] [] (R x0 x1 x2 x3 x5 x7)) (x0 : Int32) (x1 : Int32) (x2 : Int32) (x3 : Int64) (x5 : Int64) (x7 : Int32) : qS l g mX11_waysOfFewer (d + 1) n 0 0 0 0 cvL 8 [(0, .int x0), (1, .int x1), (2, .int x2), (3, .long x3), (5, .long x5), (7, .int x7)] [] (UX11_waysOfFewer_8 R x0 x1 x2 x3 x5 x7) := by
  unfold UX11_waysOfFewer_8
  refine s_iload dX11_waysOfFewer_8 rfl ?_
  refine s_iload_n dX11_waysOfFewer_10 rfl ?_
  refine s_icmp_ge (tgt := 66) dX11_waysOfFewer_11 (by decide) (fun c1 => ?_) (fun c1 => ?_)
  · refine s_lload_n dX11_waysOfFewer_66 rfl ?_
    exact s_lreturn dX11_waysOfFewer_67 rfl
  · refine s_iload dX11_waysOfFewer_14 rfl ?_
    refine s_iload_n dX11_waysOfFewer_16 rfl ?_
    refine s_icmp_gt (tgt := 66) dX11_waysOfFewer_17 (by decide) (fun c2 => ?_) (fun c2 => ?_)
    · refine s_lload_n dX11_waysOfFewer_66 rfl ?_
      exact s_lreturn dX11_waysOfFewer_67 rfl
    · refine s_lload_n dX11_waysOfFewer_20 rfl ?_
      refine s_lload dX11_waysOfFewer_21 rfl ?_
      refine s_iload_n dX11_waysOfFewer_23 rfl ?_
      refine s_iload dX11_waysOfFewer_24 rfl ?_
      refine s_staticL (as := [.int x0, .int x7]) (rest := [.long x5, .long x3]) dX11_waysOfFewer_26 sX11_115 (CX11_power _ _) (Nat.le_of_ble_eq_true rfl) ⟨Nat.le_refl _, Nat.le_refl _⟩ fun v1 => ?_
      refine s_lmul dX11_waysOfFewer_29 ?_
      refine s_bipush (v := 10) dX11_waysOfFewer_30 (by decide) ?_
      refine s_iload_n dX11_waysOfFewer_32 rfl ?_
      refine s_isub dX11_waysOfFewer_33 ?_
      refine s_iload_n dX11_waysOfFewer_34 rfl ?_
      refine s_iload dX11_waysOfFewer_35 rfl ?_
      refine s_isub dX11_waysOfFewer_37 ?_
      refine s_staticL (as := [.int ((10 : Int32) - x0), .int (x1 - x7)]) (rest := [.long (x5 * v1), .long x3]) dX11_waysOfFewer_38 sX11_115 (CX11_power _ _) (Nat.le_of_ble_eq_true rfl) ⟨Nat.le_refl _, Nat.le_refl _⟩ fun v2 => ?_
      refine s_lmul dX11_waysOfFewer_41 ?_
      refine s_ladd dX11_waysOfFewer_42 ?_
      refine s_lstore_n (lv' := [(3, .long (x3 + ((x5 * v1) * v2))), (0, .int x0), (1, .int x1), (2, .int x2), (5, .long x5), (7, .int x7)]) dX11_waysOfFewer_43 (by decide) rfl ?_
      refine s_lload dX11_waysOfFewer_44 rfl ?_
      refine s_iload_n dX11_waysOfFewer_46 rfl ?_
      refine s_iload dX11_waysOfFewer_47 rfl ?_
      refine s_isub dX11_waysOfFewer_49 ?_
      refine s_i2l dX11_waysOfFewer_50 ?_
      refine s_lmul dX11_waysOfFewer_51 ?_
      refine s_iload dX11_waysOfFewer_52 rfl ?_
      refine s_iconst (v := 1) dX11_waysOfFewer_54 (by decide) ?_
      refine s_iadd dX11_waysOfFewer_55 ?_
      refine s_i2l dX11_waysOfFewer_56 ?_
      refine s_ldiv dX11_waysOfFewer_57 ?_
      refine s_lstore (lv' := [(5, .long ((x5 * ((x1 - x7)).toInt64) / ((x7 + (1 : Int32))).toInt64)), (3, .long (x3 + ((x5 * v1) * v2))), (0, .int x0), (1, .int x1), (2, .int x2), (7, .int x7)]) dX11_waysOfFewer_58 (by decide) rfl ?_
      refine s_iinc (lv' := [(7, .int (x7 + 1)), (5, .long ((x5 * ((x1 - x7)).toInt64) / ((x7 + (1 : Int32))).toInt64)), (3, .long (x3 + ((x5 * v1) * v2))), (0, .int x0), (1, .int x1), (2, .int x2)]) dX11_waysOfFewer_60 rfl (by decide) rfl ?_
      refine s_goto (tgt := 8) dX11_waysOfFewer_63 (by decide) ?_
      refine s_locals [3, 4, 5, 2, 1, 0] rfl ?_
      exact hR x0 x1 x2 (x3 + ((x5 * v1) * v2)) ((x5 * ((x1 - x7)).toInt64) / ((x7 + (1 : Int32))).toInt64) (x7 + 1)
def WX11_waysOfFewer_8 : Nat → Int32 → Int32 → Int32 → Int64 → Int64 → Int32 → qP Int64
  | 0 => fun _ _ _ _ _ _ => qfail
  | N + 1 => fun x0 x1 x2 x3 x5 x7 => UX11_waysOfFewer_8 (WX11_waysOfFewer_8  N)  x0 x1 x2 x3 x5 x7
theorem WX11_waysOfFewer_8_ok {l : Launch} {g : qG} {d n : Nat} : ∀ (N : Nat) (x0 : Int32) (x1 : Int32) (x2 : Int32) (x3 : Int64) (x5 : Int64) (x7 : Int32), qS l g mX11_waysOfFewer (d + 1) n 0 0 0 0 cvL 8 [(0, .int x0), (1, .int x1), (2, .int x2), (3, .long x3), (5, .long x5), (7, .int x7)] [] (WX11_waysOfFewer_8  N x0 x1 x2 x3 x5 x7) := by
  intro N
  induction N with
  | zero => intro x0 x1 x2 x3 x5 x7; exact s_fail
  | succ N ih => intro x0 x1 x2 x3 x5 x7; exact UX11_waysOfFewer_8_ok ih  x0 x1 x2 x3 x5 x7
def FX11_waysOfFewer (x0 : Int32) (x1 : Int32) (x2 : Int32) : qP Int64 :=
WX11_waysOfFewer_8 1000000 x0 x1 x2 (0 : Int64) (1 : Int64) (0 : Int32)
set_option maxRecDepth 100000 in
set_option maxHeartbeats 4000000 in
theorem FX11_waysOfFewer_ok {l : Launch} {g : qG} {d n : Nat} (x0 : Int32) (x1 : Int32) (x2 : Int32) : qS l g mX11_waysOfFewer (d + 1) n 0 0 0 0 cvL 0 [(0, .int x0), (1, .int x1), (2, .int x2)] [] (FX11_waysOfFewer x0 x1 x2) := by
  unfold FX11_waysOfFewer
  refine s_lconst (v := 0) dX11_waysOfFewer_0 (by decide) ?_
  refine s_lstore_n (lv' := [(3, .long (0 : Int64)), (0, .int x0), (1, .int x1), (2, .int x2)]) dX11_waysOfFewer_1 (by decide) rfl ?_
  refine s_lconst (v := 1) dX11_waysOfFewer_2 (by decide) ?_
  refine s_lstore (lv' := [(5, .long (1 : Int64)), (3, .long (0 : Int64)), (0, .int x0), (1, .int x1), (2, .int x2)]) dX11_waysOfFewer_3 (by decide) rfl ?_
  refine s_iconst (v := 0) dX11_waysOfFewer_5 (by decide) ?_
  refine s_istore (lv' := [(7, .int (0 : Int32)), (5, .long (1 : Int64)), (3, .long (0 : Int64)), (0, .int x0), (1, .int x1), (2, .int x2)]) dX11_waysOfFewer_6 (by decide) rfl ?_
  refine s_locals [3, 4, 5, 2, 1, 0] rfl ?_
  exact WX11_waysOfFewer_8_ok  1000000 x0 x1 x2 (0 : Int64) (1 : Int64) (0 : Int32)
theorem CX11_waysOfFewer {l : Launch} {g : qG} {d : Nat} (x0 : Int32) (x1 : Int32) (x2 : Int32) : qCt l g mX11_waysOfFewer (d + 1) 0 0 cvL [.int x0, .int x1, .int x2] (FX11_waysOfFewer x0 x1 x2) := s_of pn_X11 (Nat.le_of_ble_eq_true rfl) fun n => FX11_waysOfFewer_ok x0 x1 x2
def UX11_commonDivisor_9 (R : Int64 → Int64 → Int32 → qP Int64) (x4 : Int64) (x6 : Int64) (x8 : Int32) : qP Int64 :=
if (1000 : Int32) ≤ x8 then (
qr x4) else (
if (lg_cmp x6 (0 : Int64)) = 0 then (
qr x4) else (
qgd (¬ x6 = 0) (
R x6 (x4 - x4 / x6 * x6) (x8 + 1))))
set_option maxRecDepth 100000 in
set_option maxHeartbeats 4000000 in
theorem UX11_commonDivisor_9_ok {l : Launch} {g : qG} {d n : Nat} {R : Int64 → Int64 → Int32 → qP Int64} (hR : ∀ (x4 : Int64) (x6 : Int64) (x8 : Int32), qS l g mX11_commonDivisor d n 0 0 0 0 cvL 9 [(4, .long x4), (6, .long x6), (8, .int x8)] [] (R x4 x6 x8)) (x4 : Int64) (x6 : Int64) (x8 : Int32) : qS l g mX11_commonDivisor d n 0 0 0 0 cvL 9 [(4, .long x4), (6, .long x6), (8, .int x8)] [] (UX11_commonDivisor_9 R x4 x6 x8) := by
  unfold UX11_commonDivisor_9
  refine s_iload dX11_commonDivisor_9 rfl ?_
  refine s_sipush (v := 1000) dX11_commonDivisor_11 (by decide) ?_
  refine s_icmp_ge (tgt := 45) dX11_commonDivisor_14 (by decide) (fun c1 => ?_) (fun c1 => ?_)
  · refine s_lload dX11_commonDivisor_45 rfl ?_
    exact s_lreturn dX11_commonDivisor_47 rfl
  · refine s_lload dX11_commonDivisor_17 rfl ?_
    refine s_lconst (v := 0) dX11_commonDivisor_19 (by decide) ?_
    refine s_lcmp dX11_commonDivisor_20 ?_
    refine s_if_eq (tgt := 45) dX11_commonDivisor_21 (by decide) (fun c2 => ?_) (fun c2 => ?_)
    · refine s_lload dX11_commonDivisor_45 rfl ?_
      exact s_lreturn dX11_commonDivisor_47 rfl
    · refine s_lload dX11_commonDivisor_24 rfl ?_
      refine s_lload dX11_commonDivisor_26 rfl ?_
      refine s_lrem dX11_commonDivisor_28 ?_
      refine s_lstore (lv' := [(9, .long (x4 - x4 / x6 * x6)), (4, .long x4), (6, .long x6), (8, .int x8)]) dX11_commonDivisor_29 (by decide) rfl ?_
      refine s_lload dX11_commonDivisor_31 rfl ?_
      refine s_lstore (lv' := [(4, .long x6), (9, .long (x4 - x4 / x6 * x6)), (6, .long x6), (8, .int x8)]) dX11_commonDivisor_33 (by decide) rfl ?_
      refine s_lload dX11_commonDivisor_35 rfl ?_
      refine s_lstore (lv' := [(6, .long (x4 - x4 / x6 * x6)), (4, .long x6), (9, .long (x4 - x4 / x6 * x6)), (8, .int x8)]) dX11_commonDivisor_37 (by decide) rfl ?_
      refine s_iinc (lv' := [(8, .int (x8 + 1)), (6, .long (x4 - x4 / x6 * x6)), (4, .long x6), (9, .long (x4 - x4 / x6 * x6))]) dX11_commonDivisor_39 rfl (by decide) rfl ?_
      refine s_goto (tgt := 9) dX11_commonDivisor_42 (by decide) ?_
      refine s_locals [2, 1, 0] rfl ?_
      exact hR x6 (x4 - x4 / x6 * x6) (x8 + 1)
def WX11_commonDivisor_9 : Nat → Int64 → Int64 → Int32 → qP Int64
  | 0 => fun _ _ _ => qfail
  | N + 1 => fun x4 x6 x8 => UX11_commonDivisor_9 (WX11_commonDivisor_9  N)  x4 x6 x8
theorem WX11_commonDivisor_9_ok {l : Launch} {g : qG} {d n : Nat} : ∀ (N : Nat) (x4 : Int64) (x6 : Int64) (x8 : Int32), qS l g mX11_commonDivisor d n 0 0 0 0 cvL 9 [(4, .long x4), (6, .long x6), (8, .int x8)] [] (WX11_commonDivisor_9  N x4 x6 x8) := by
  intro N
  induction N with
  | zero => intro x4 x6 x8; exact s_fail
  | succ N ih => intro x4 x6 x8; exact UX11_commonDivisor_9_ok ih  x4 x6 x8
def FX11_commonDivisor (x0 : Int64) (x2 : Int64) : qP Int64 :=
WX11_commonDivisor_9 1000000 x0 x2 (0 : Int32)
set_option maxRecDepth 100000 in
set_option maxHeartbeats 4000000 in
theorem FX11_commonDivisor_ok {l : Launch} {g : qG} {d n : Nat} (x0 : Int64) (x2 : Int64) : qS l g mX11_commonDivisor d n 0 0 0 0 cvL 0 [(0, .long x0), (2, .long x2)] [] (FX11_commonDivisor x0 x2) := by
  unfold FX11_commonDivisor
  refine s_lload_n dX11_commonDivisor_0 rfl ?_
  refine s_lstore (lv' := [(4, .long x0), (0, .long x0), (2, .long x2)]) dX11_commonDivisor_1 (by decide) rfl ?_
  refine s_lload_n dX11_commonDivisor_3 rfl ?_
  refine s_lstore (lv' := [(6, .long x2), (4, .long x0), (0, .long x0), (2, .long x2)]) dX11_commonDivisor_4 (by decide) rfl ?_
  refine s_iconst (v := 0) dX11_commonDivisor_6 (by decide) ?_
  refine s_istore (lv' := [(8, .int (0 : Int32)), (6, .long x2), (4, .long x0), (0, .long x0), (2, .long x2)]) dX11_commonDivisor_7 (by decide) rfl ?_
  refine s_locals [2, 1, 0] rfl ?_
  exact WX11_commonDivisor_9_ok  1000000 x0 x2 (0 : Int32)
theorem CX11_commonDivisor {l : Launch} {g : qG} {d : Nat} (x0 : Int64) (x2 : Int64) : qCt l g mX11_commonDivisor d 0 0 cvL [.long x0, .long x2] (FX11_commonDivisor x0 x2) := s_of pn_X11 (Nat.le_of_ble_eq_true rfl) fun n => FX11_commonDivisor_ok x0 x2
def UX11_stings_30 (x0 : Nat) : qP Int32 :=
qb (qcl 11 x0) fun _ => qb (FX11_counted x0 (-2 : Int32)) fun v1 =>
qr v1
set_option maxRecDepth 100000 in
set_option maxHeartbeats 4000000 in
theorem UX11_stings_30_ok {l : Launch} {g : qG} {d n : Nat} (x0 : Nat) : qS l g mX11_stings (d + 2) n 0 0 0 0 cvI 30 [(0, .ref x0)] [] (UX11_stings_30 x0) := by
  unfold UX11_stings_30
  refine s_aload_n dX11_stings_30 rfl ?_
  refine s_bipush (v := -2) dX11_stings_31 (by decide) ?_
  refine s_virtI (as := [.int (-2 : Int32)]) (rest := []) dX11_stings_33 vX11_58 (CX11_counted _ _) (Nat.le_of_ble_eq_true rfl) ⟨Nat.le_refl _, Nat.le_refl _⟩ fun v1 => ?_
  exact s_ireturn dX11_stings_36 rfl rfl
def FX11_stings (x0 : Nat) (x1 : Int32) (x2 : Int32) (x3 : Int32) : qP Int32 :=
qb (FX11_within x1 (0 : Int32) (10 : Int32)) fun v1 =>
if v1 = 0 then (
UX11_stings_30 x0) else (
qb (FX11_within x2 (0 : Int32) (12 : Int32)) fun v2 =>
if v2 = 0 then (
UX11_stings_30 x0) else (
qb (FX11_within x3 (0 : Int32) (13 : Int32)) fun v3 =>
if v3 = 0 then (
UX11_stings_30 x0) else (
qb (FX11_waysOfFewer x1 x2 x3) fun v4 =>
qb (FX11_power (10 : Int32) x2) fun v5 =>
qb (FX11_commonDivisor v5 v4) fun v6 =>
if (lg_cmp v6 (0 : Int64)) ≤ 0 then (
qr (1 : Int32)) else (
qgd (¬ v6 = 0) (
qb (pV 11 x0 5 (.long (v4 / v6))) fun _ =>
qgd (¬ v6 = 0) (
qb (pV 11 x0 6 (.long (v5 / v6))) fun _ =>
qr (1 : Int32)))))))
set_option maxRecDepth 100000 in
set_option maxHeartbeats 4000000 in
theorem FX11_stings_ok {l : Launch} {g : qG} {d n : Nat} (x0 : Nat) (x1 : Int32) (x2 : Int32) (x3 : Int32) : qS l g mX11_stings (d + 2) n 0 0 0 0 cvI 0 [(0, .ref x0), (1, .int x1), (2, .int x2), (3, .int x3)] [] (FX11_stings x0 x1 x2 x3) := by
  unfold FX11_stings
  refine s_iload_n dX11_stings_0 rfl ?_
  refine s_iconst (v := 0) dX11_stings_1 (by decide) ?_
  refine s_bipush (v := 10) dX11_stings_2 (by decide) ?_
  refine s_staticI (as := [.int x1, .int (0 : Int32), .int (10 : Int32)]) (rest := []) dX11_stings_4 sX11_83 (CX11_within _ _ _) (Nat.le_of_ble_eq_true rfl) ⟨Nat.le_refl _, Nat.le_refl _⟩ fun v1 => ?_
  refine s_if_eq (tgt := 30) dX11_stings_7 (by decide) (fun c1 => ?_) (fun c1 => ?_)
  · refine s_locals [0] rfl ?_
    exact UX11_stings_30_ok x0
  · refine s_iload_n dX11_stings_10 rfl ?_
    refine s_iconst (v := 0) dX11_stings_11 (by decide) ?_
    refine s_bipush (v := 12) dX11_stings_12 (by decide) ?_
    refine s_staticI (as := [.int x2, .int (0 : Int32), .int (12 : Int32)]) (rest := []) dX11_stings_14 sX11_83 (CX11_within _ _ _) (Nat.le_of_ble_eq_true rfl) ⟨Nat.le_refl _, Nat.le_refl _⟩ fun v2 => ?_
    refine s_if_eq (tgt := 30) dX11_stings_17 (by decide) (fun c2 => ?_) (fun c2 => ?_)
    · refine s_locals [0] rfl ?_
      exact UX11_stings_30_ok x0
    · refine s_iload_n dX11_stings_20 rfl ?_
      refine s_iconst (v := 0) dX11_stings_21 (by decide) ?_
      refine s_bipush (v := 13) dX11_stings_22 (by decide) ?_
      refine s_staticI (as := [.int x3, .int (0 : Int32), .int (13 : Int32)]) (rest := []) dX11_stings_24 sX11_83 (CX11_within _ _ _) (Nat.le_of_ble_eq_true rfl) ⟨Nat.le_refl _, Nat.le_refl _⟩ fun v3 => ?_
      refine s_if_ne (tgt := 37) dX11_stings_27 (by decide) (fun c3 => ?_) (fun c3 => ?_)
      · refine s_locals [0] rfl ?_
        exact UX11_stings_30_ok x0
      · refine s_iload_n dX11_stings_37 rfl ?_
        refine s_iload_n dX11_stings_38 rfl ?_
        refine s_iload_n dX11_stings_39 rfl ?_
        refine s_staticL (as := [.int x1, .int x2, .int x3]) (rest := []) dX11_stings_40 sX11_111 (CX11_waysOfFewer _ _ _) (Nat.le_of_ble_eq_true rfl) ⟨Nat.le_refl _, Nat.le_refl _⟩ fun v4 => ?_
        refine s_lstore (lv' := [(4, .long v4), (0, .ref x0), (1, .int x1), (2, .int x2), (3, .int x3)]) dX11_stings_43 (by decide) rfl ?_
        refine s_bipush (v := 10) dX11_stings_45 (by decide) ?_
        refine s_iload_n dX11_stings_47 rfl ?_
        refine s_staticL (as := [.int (10 : Int32), .int x2]) (rest := []) dX11_stings_48 sX11_115 (CX11_power _ _) (Nat.le_of_ble_eq_true rfl) ⟨Nat.le_refl _, Nat.le_refl _⟩ fun v5 => ?_
        refine s_lstore (lv' := [(6, .long v5), (4, .long v4), (0, .ref x0), (1, .int x1), (2, .int x2), (3, .int x3)]) dX11_stings_51 (by decide) rfl ?_
        refine s_lload dX11_stings_53 rfl ?_
        refine s_lload dX11_stings_55 rfl ?_
        refine s_staticL (as := [.long v5, .long v4]) (rest := []) dX11_stings_57 sX11_119 (CX11_commonDivisor _ _) (Nat.le_of_ble_eq_true rfl) ⟨Nat.le_refl _, Nat.le_refl _⟩ fun v6 => ?_
        refine s_lstore (lv' := [(8, .long v6), (6, .long v5), (4, .long v4), (0, .ref x0), (1, .int x1), (2, .int x2), (3, .int x3)]) dX11_stings_60 (by decide) rfl ?_
        refine s_lload dX11_stings_62 rfl ?_
        refine s_lconst (v := 0) dX11_stings_64 (by decide) ?_
        refine s_lcmp dX11_stings_65 ?_
        refine s_if_le (tgt := 87) dX11_stings_66 (by decide) (fun c4 => ?_) (fun c4 => ?_)
        · refine s_iconst (v := 1) dX11_stings_87 (by decide) ?_
          exact s_ireturn dX11_stings_88 rfl rfl
        · refine s_aload_n dX11_stings_69 rfl ?_
          refine s_lload dX11_stings_70 rfl ?_
          refine s_lload dX11_stings_72 rfl ?_
          refine s_ldiv dX11_stings_74 ?_
          refine s_put dX11_stings_75 fX11_37 rfl rfl ?_
          refine s_aload_n dX11_stings_78 rfl ?_
          refine s_lload dX11_stings_79 rfl ?_
          refine s_lload dX11_stings_81 rfl ?_
          refine s_ldiv dX11_stings_83 ?_
          refine s_put dX11_stings_84 fX11_41 rfl rfl ?_
          refine s_iconst (v := 1) dX11_stings_87 (by decide) ?_
          exact s_ireturn dX11_stings_88 rfl rfl
theorem CX11_stings {l : Launch} {g : qG} {d : Nat} (x0 : Nat) (x1 : Int32) (x2 : Int32) (x3 : Int32) : qCt l g mX11_stings (d + 2) 0 0 cvI [.ref x0, .int x1, .int x2, .int x3] (FX11_stings x0 x1 x2 x3) := s_of pn_X11 (Nat.le_of_ble_eq_true rfl) fun n => FX11_stings_ok x0 x1 x2 x3
def UX11_surest_53 (x0 : Nat) : qP Int32 :=
qb (qcl 11 x0) fun _ => qb (FX11_counted x0 (-2 : Int32)) fun v1 =>
qr v1
set_option maxRecDepth 100000 in
set_option maxHeartbeats 4000000 in
theorem UX11_surest_53_ok {l : Launch} {g : qG} {d n : Nat} (x0 : Nat) : qS l g mX11_surest (d + 2) n 0 0 0 0 cvI 53 [(0, .ref x0)] [] (UX11_surest_53 x0) := by
  unfold UX11_surest_53
  refine s_aload_n dX11_surest_53 rfl ?_
  refine s_bipush (v := -2) dX11_surest_54 (by decide) ?_
  refine s_virtI (as := [.int (-2 : Int32)]) (rest := []) dX11_surest_56 vX11_58 (CX11_counted _ _) (Nat.le_of_ble_eq_true rfl) ⟨Nat.le_refl _, Nat.le_refl _⟩ fun v1 => ?_
  exact s_ireturn dX11_surest_59 rfl rfl
def UX11_surest_64 (R : Int32 → Int32 → Int32 → Int32 → Int32 → qP Int32) (x1 : Int32) (x2 : Int32) (x3 : Int32) (x4 : Int32) (x6 : Int32) : qP Int32 :=
if x6 < 0 then (
qr (-1 : Int32)) else (
qb (FX11_waysOfFewer x1 x6 x2) fun v1 =>
qb (FX11_power (10 : Int32) x6) fun v2 =>
if (lg_cmp (v1 * (x4).toInt64) (v2 * (x3).toInt64)) < 0 then (
R x1 x2 x3 x4 (x6 + (-1))) else (
qr x6))
set_option maxRecDepth 100000 in
set_option maxHeartbeats 4000000 in
theorem UX11_surest_64_ok {l : Launch} {g : qG} {d n : Nat} {R : Int32 → Int32 → Int32 → Int32 → Int32 → qP Int32} (hR : ∀ (x1 : Int32) (x2 : Int32) (x3 : Int32) (x4 : Int32) (x6 : Int32), qS l g mX11_surest (d + 2) n 0 0 0 0 cvI 64 [(1, .int x1), (2, .int x2), (3, .int x3), (4, .int x4), (6, .int x6)] [] (R x1 x2 x3 x4 x6)) (x1 : Int32) (x2 : Int32) (x3 : Int32) (x4 : Int32) (x6 : Int32) : qS l g mX11_surest (d + 2) n 0 0 0 0 cvI 64 [(1, .int x1), (2, .int x2), (3, .int x3), (4, .int x4), (6, .int x6)] [] (UX11_surest_64 R x1 x2 x3 x4 x6) := by
  unfold UX11_surest_64
  refine s_iload dX11_surest_64 rfl ?_
  refine s_if_lt (tgt := 103) dX11_surest_66 (by decide) (fun c1 => ?_) (fun c1 => ?_)
  · refine s_iconst (v := -1) dX11_surest_103 (by decide) ?_
    exact s_ireturn dX11_surest_104 rfl rfl
  · refine s_iload_n dX11_surest_69 rfl ?_
    refine s_iload dX11_surest_70 rfl ?_
    refine s_iload_n dX11_surest_72 rfl ?_
    refine s_staticL (as := [.int x1, .int x6, .int x2]) (rest := []) dX11_surest_73 sX11_111 (CX11_waysOfFewer _ _ _) (Nat.le_of_ble_eq_true rfl) ⟨Nat.le_refl _, Nat.le_refl _⟩ fun v1 => ?_
    refine s_iload dX11_surest_76 rfl ?_
    refine s_i2l dX11_surest_78 ?_
    refine s_lmul dX11_surest_79 ?_
    refine s_bipush (v := 10) dX11_surest_80 (by decide) ?_
    refine s_iload dX11_surest_82 rfl ?_
    refine s_staticL (as := [.int (10 : Int32), .int x6]) (rest := [.long (v1 * (x4).toInt64)]) dX11_surest_84 sX11_115 (CX11_power _ _) (Nat.le_of_ble_eq_true rfl) ⟨Nat.le_refl _, Nat.le_refl _⟩ fun v2 => ?_
    refine s_iload_n dX11_surest_87 rfl ?_
    refine s_i2l dX11_surest_88 ?_
    refine s_lmul dX11_surest_89 ?_
    refine s_lcmp dX11_surest_90 ?_
    refine s_if_lt (tgt := 97) dX11_surest_91 (by decide) (fun c2 => ?_) (fun c2 => ?_)
    · refine s_iinc (lv' := [(6, .int (x6 + (-1))), (1, .int x1), (2, .int x2), (3, .int x3), (4, .int x4)]) dX11_surest_97 rfl (by decide) rfl ?_
      refine s_goto (tgt := 64) dX11_surest_100 (by decide) ?_
      refine s_locals [1, 2, 3, 4, 0] rfl ?_
      exact hR x1 x2 x3 x4 (x6 + (-1))
    · refine s_iload dX11_surest_94 rfl ?_
      exact s_ireturn dX11_surest_96 rfl rfl
def WX11_surest_64 : Nat → Int32 → Int32 → Int32 → Int32 → Int32 → qP Int32
  | 0 => fun _ _ _ _ _ => qfail
  | N + 1 => fun x1 x2 x3 x4 x6 => UX11_surest_64 (WX11_surest_64  N)  x1 x2 x3 x4 x6
theorem WX11_surest_64_ok {l : Launch} {g : qG} {d n : Nat} : ∀ (N : Nat) (x1 : Int32) (x2 : Int32) (x3 : Int32) (x4 : Int32) (x6 : Int32), qS l g mX11_surest (d + 2) n 0 0 0 0 cvI 64 [(1, .int x1), (2, .int x2), (3, .int x3), (4, .int x4), (6, .int x6)] [] (WX11_surest_64  N x1 x2 x3 x4 x6) := by
  intro N
  induction N with
  | zero => intro x1 x2 x3 x4 x6; exact s_fail
  | succ N ih => intro x1 x2 x3 x4 x6; exact UX11_surest_64_ok ih  x1 x2 x3 x4 x6
def UX11_surest_25 (x0 : Nat) (x1 : Int32) (x2 : Int32) (x3 : Int32) (x4 : Int32) (s0 : Int32) : qP Int32 :=
if s0 = 0 then (
UX11_surest_53 x0) else (
qb (FX11_within x4 (1 : Int32) (99 : Int32)) fun v1 =>
if v1 = 0 then (
UX11_surest_53 x0) else (
qb (FX11_within x3 (1 : Int32) x4) fun v2 =>
if v2 = 0 then (
UX11_surest_53 x0) else (
WX11_surest_64 1000000 x1 x2 x3 x4 (12 : Int32))))
set_option maxRecDepth 100000 in
set_option maxHeartbeats 4000000 in
theorem UX11_surest_25_ok {l : Launch} {g : qG} {d n : Nat} (x0 : Nat) (x1 : Int32) (x2 : Int32) (x3 : Int32) (x4 : Int32) (s0 : Int32) : qS l g mX11_surest (d + 2) n 0 0 0 0 cvI 25 [(0, .ref x0), (1, .int x1), (2, .int x2), (3, .int x3), (4, .int x4)] [.int s0] (UX11_surest_25 x0 x1 x2 x3 x4 s0) := by
  unfold UX11_surest_25
  refine s_istore (lv' := [(5, .int s0), (0, .ref x0), (1, .int x1), (2, .int x2), (3, .int x3), (4, .int x4)]) dX11_surest_25 (by decide) rfl ?_
  refine s_iload dX11_surest_27 rfl ?_
  refine s_if_eq (tgt := 53) dX11_surest_29 (by decide) (fun c1 => ?_) (fun c1 => ?_)
  · refine s_locals [1] rfl ?_
    exact UX11_surest_53_ok x0
  · refine s_iload dX11_surest_32 rfl ?_
    refine s_iconst (v := 1) dX11_surest_34 (by decide) ?_
    refine s_bipush (v := 99) dX11_surest_35 (by decide) ?_
    refine s_staticI (as := [.int x4, .int (1 : Int32), .int (99 : Int32)]) (rest := []) dX11_surest_37 sX11_83 (CX11_within _ _ _) (Nat.le_of_ble_eq_true rfl) ⟨Nat.le_refl _, Nat.le_refl _⟩ fun v1 => ?_
    refine s_if_eq (tgt := 53) dX11_surest_40 (by decide) (fun c2 => ?_) (fun c2 => ?_)
    · refine s_locals [1] rfl ?_
      exact UX11_surest_53_ok x0
    · refine s_iload_n dX11_surest_43 rfl ?_
      refine s_iconst (v := 1) dX11_surest_44 (by decide) ?_
      refine s_iload dX11_surest_45 rfl ?_
      refine s_staticI (as := [.int x3, .int (1 : Int32), .int x4]) (rest := []) dX11_surest_47 sX11_83 (CX11_within _ _ _) (Nat.le_of_ble_eq_true rfl) ⟨Nat.le_refl _, Nat.le_refl _⟩ fun v2 => ?_
      refine s_if_ne (tgt := 60) dX11_surest_50 (by decide) (fun c3 => ?_) (fun c3 => ?_)
      · refine s_locals [1] rfl ?_
        exact UX11_surest_53_ok x0
      · refine s_bipush (v := 12) dX11_surest_60 (by decide) ?_
        refine s_istore (lv' := [(6, .int (12 : Int32)), (5, .int s0), (0, .ref x0), (1, .int x1), (2, .int x2), (3, .int x3), (4, .int x4)]) dX11_surest_62 (by decide) rfl ?_
        refine s_locals [3, 4, 5, 6, 0] rfl ?_
        exact WX11_surest_64_ok  1000000 x1 x2 x3 x4 (12 : Int32)
def FX11_surest (x0 : Nat) (x1 : Int32) (x2 : Int32) (x3 : Int32) (x4 : Int32) : qP Int32 :=
qb (FX11_within x1 (0 : Int32) (10 : Int32)) fun v1 =>
if v1 = 0 then (
UX11_surest_25 x0 x1 x2 x3 x4 (0 : Int32)) else (
qb (FX11_within x2 (0 : Int32) (13 : Int32)) fun v2 =>
if v2 = 0 then (
UX11_surest_25 x0 x1 x2 x3 x4 (0 : Int32)) else (
UX11_surest_25 x0 x1 x2 x3 x4 (1 : Int32)))
set_option maxRecDepth 100000 in
set_option maxHeartbeats 4000000 in
theorem FX11_surest_ok {l : Launch} {g : qG} {d n : Nat} (x0 : Nat) (x1 : Int32) (x2 : Int32) (x3 : Int32) (x4 : Int32) : qS l g mX11_surest (d + 2) n 0 0 0 0 cvI 0 [(0, .ref x0), (1, .int x1), (2, .int x2), (3, .int x3), (4, .int x4)] [] (FX11_surest x0 x1 x2 x3 x4) := by
  unfold FX11_surest
  refine s_iload_n dX11_surest_0 rfl ?_
  refine s_iconst (v := 0) dX11_surest_1 (by decide) ?_
  refine s_bipush (v := 10) dX11_surest_2 (by decide) ?_
  refine s_staticI (as := [.int x1, .int (0 : Int32), .int (10 : Int32)]) (rest := []) dX11_surest_4 sX11_83 (CX11_within _ _ _) (Nat.le_of_ble_eq_true rfl) ⟨Nat.le_refl _, Nat.le_refl _⟩ fun v1 => ?_
  refine s_if_eq (tgt := 24) dX11_surest_7 (by decide) (fun c1 => ?_) (fun c1 => ?_)
  · refine s_iconst (v := 0) dX11_surest_24 (by decide) ?_
    exact UX11_surest_25_ok x0 x1 x2 x3 x4 (0 : Int32)
  · refine s_iload_n dX11_surest_10 rfl ?_
    refine s_iconst (v := 0) dX11_surest_11 (by decide) ?_
    refine s_bipush (v := 13) dX11_surest_12 (by decide) ?_
    refine s_staticI (as := [.int x2, .int (0 : Int32), .int (13 : Int32)]) (rest := []) dX11_surest_14 sX11_83 (CX11_within _ _ _) (Nat.le_of_ble_eq_true rfl) ⟨Nat.le_refl _, Nat.le_refl _⟩ fun v2 => ?_
    refine s_if_eq (tgt := 24) dX11_surest_17 (by decide) (fun c2 => ?_) (fun c2 => ?_)
    · refine s_iconst (v := 0) dX11_surest_24 (by decide) ?_
      exact UX11_surest_25_ok x0 x1 x2 x3 x4 (0 : Int32)
    · refine s_iconst (v := 1) dX11_surest_20 (by decide) ?_
      refine s_goto (tgt := 25) dX11_surest_21 (by decide) ?_
      exact UX11_surest_25_ok x0 x1 x2 x3 x4 (1 : Int32)
theorem CX11_surest {l : Launch} {g : qG} {d : Nat} (x0 : Nat) (x1 : Int32) (x2 : Int32) (x3 : Int32) (x4 : Int32) : qCt l g mX11_surest (d + 2) 0 0 cvI [.ref x0, .int x1, .int x2, .int x3, .int x4] (FX11_surest x0 x1 x2 x3 x4) := s_of pn_X11 (Nat.le_of_ble_eq_true rfl) fun n => FX11_surest_ok x0 x1 x2 x3 x4
def FX11_told (x0 : Nat) (x1 : Int32) (x2 : Int32) : qP Int32 :=
qb (gR 11 x0 0) fun v1 =>
qb (qcl 2 v1) fun _ => qb (FX2_tellBare v1 x1 x2) fun v2 =>
qb (qcl 11 x0) fun _ => qb (FX11_counted x0 v2) fun v3 =>
qr v3
set_option maxRecDepth 100000 in
set_option maxHeartbeats 4000000 in
theorem FX11_told_ok {l : Launch} {g : qG} {d n : Nat} (x0 : Nat) (x1 : Int32) (x2 : Int32) : qS l g mX11_told (d + 2) n 0 0 0 0 cvI 0 [(0, .ref x0), (1, .int x1), (2, .int x2)] [] (FX11_told x0 x1 x2) := by
  unfold FX11_told
  refine s_aload_n dX11_told_0 rfl ?_
  refine s_aload_n dX11_told_1 rfl ?_
  refine s_gR dX11_told_2 fX11_10 fun v1 => ?_
  refine s_iload_n dX11_told_5 rfl ?_
  refine s_iload_n dX11_told_6 rfl ?_
  refine s_virtI (as := [.int x1, .int x2]) (rest := [.ref x0]) dX11_told_7 vX11_123 (CX2_tellBare _ _ _) (Nat.le_of_ble_eq_true rfl) ⟨Nat.le_refl _, Nat.le_refl _⟩ fun v2 => ?_
  refine s_virtI (as := [.int v2]) (rest := []) dX11_told_10 vX11_58 (CX11_counted _ _) (Nat.le_of_ble_eq_true rfl) ⟨Nat.le_refl _, Nat.le_refl _⟩ fun v3 => ?_
  exact s_ireturn dX11_told_13 rfl rfl
theorem CX11_told {l : Launch} {g : qG} {d : Nat} (x0 : Nat) (x1 : Int32) (x2 : Int32) : qCt l g mX11_told (d + 2) 0 0 cvI [.ref x0, .int x1, .int x2] (FX11_told x0 x1 x2) := s_of pn_X11 (Nat.le_of_ble_eq_true rfl) fun n => FX11_told_ok x0 x1 x2
def UX11_bare_18 (x0 : Nat) : qP Int32 :=
qb (qcl 11 x0) fun _ => qb (FX11_counted x0 (-2 : Int32)) fun v1 =>
qr v1
set_option maxRecDepth 100000 in
set_option maxHeartbeats 4000000 in
theorem UX11_bare_18_ok {l : Launch} {g : qG} {d n : Nat} (x0 : Nat) : qS l g mX11_bare (d + 12) n 0 0 0 0 cvI 18 [(0, .ref x0)] [] (UX11_bare_18 x0) := by
  unfold UX11_bare_18
  refine s_aload_n dX11_bare_18 rfl ?_
  refine s_bipush (v := -2) dX11_bare_19 (by decide) ?_
  refine s_virtI (as := [.int (-2 : Int32)]) (rest := []) dX11_bare_21 vX11_58 (CX11_counted _ _) (Nat.le_of_ble_eq_true rfl) ⟨Nat.le_refl _, Nat.le_refl _⟩ fun v1 => ?_
  exact s_ireturn dX11_bare_24 rfl rfl
def UX11_bare_61 (s0 : Nat) (s1 : Int32) : qP Int32 :=
qb (qcl 11 s0) fun _ => qb (FX11_counted s0 s1) fun v1 =>
qr v1
set_option maxRecDepth 100000 in
set_option maxHeartbeats 4000000 in
theorem UX11_bare_61_ok {l : Launch} {g : qG} {d n : Nat} (s0 : Nat) (s1 : Int32) : qS l g mX11_bare (d + 12) n 0 0 0 0 cvI 61 [] [.int s1, .ref s0] (UX11_bare_61 s0 s1) := by
  unfold UX11_bare_61
  refine s_virtI (as := [.int s1]) (rest := []) dX11_bare_61 vX11_58 (CX11_counted _ _) (Nat.le_of_ble_eq_true rfl) ⟨Nat.le_refl _, Nat.le_refl _⟩ fun v1 => ?_
  exact s_ireturn dX11_bare_64 rfl rfl
def FX11_bare (x0 : Nat) (x1 : Int32) (x2 : Int32) : qP Int32 :=
qb (FX11_within x1 (0 : Int32) (4 : Int32)) fun v1 =>
if v1 = 0 then (
UX11_bare_18 x0) else (
qb (FX11_within x2 (0 : Int32) (1 : Int32)) fun v2 =>
if v2 = 0 then (
UX11_bare_18 x0) else (
qb (gR 11 x0 3) fun v3 =>
qb (gR 11 x0 0) fun v4 =>
qb (qcl 4 v3) fun _ => qb (FX4_bareRows v3 v4 x1) fun v5 =>
if x2 = 0 then (
qr v5) else (
if v5 = 0 then (
UX11_bare_61 x0 (-3 : Int32)) else (
qb (gR 11 x0 3) fun v6 =>
qb (qcl 4 v6) fun _ => qb (FX4_firstBare v6) fun v7 =>
UX11_bare_61 x0 v7))))
set_option maxRecDepth 100000 in
set_option maxHeartbeats 4000000 in
theorem FX11_bare_ok {l : Launch} {g : qG} {d n : Nat} (x0 : Nat) (x1 : Int32) (x2 : Int32) : qS l g mX11_bare (d + 12) n 0 0 0 0 cvI 0 [(0, .ref x0), (1, .int x1), (2, .int x2)] [] (FX11_bare x0 x1 x2) := by
  unfold FX11_bare
  refine s_iload_n dX11_bare_0 rfl ?_
  refine s_iconst (v := 0) dX11_bare_1 (by decide) ?_
  refine s_iconst (v := 4) dX11_bare_2 (by decide) ?_
  refine s_staticI (as := [.int x1, .int (0 : Int32), .int (4 : Int32)]) (rest := []) dX11_bare_3 sX11_83 (CX11_within _ _ _) (Nat.le_of_ble_eq_true rfl) ⟨Nat.le_refl _, Nat.le_refl _⟩ fun v1 => ?_
  refine s_if_eq (tgt := 18) dX11_bare_6 (by decide) (fun c1 => ?_) (fun c1 => ?_)
  · refine s_locals [0] rfl ?_
    exact UX11_bare_18_ok x0
  · refine s_iload_n dX11_bare_9 rfl ?_
    refine s_iconst (v := 0) dX11_bare_10 (by decide) ?_
    refine s_iconst (v := 1) dX11_bare_11 (by decide) ?_
    refine s_staticI (as := [.int x2, .int (0 : Int32), .int (1 : Int32)]) (rest := []) dX11_bare_12 sX11_83 (CX11_within _ _ _) (Nat.le_of_ble_eq_true rfl) ⟨Nat.le_refl _, Nat.le_refl _⟩ fun v2 => ?_
    refine s_if_ne (tgt := 25) dX11_bare_15 (by decide) (fun c2 => ?_) (fun c2 => ?_)
    · refine s_locals [0] rfl ?_
      exact UX11_bare_18_ok x0
    · refine s_aload_n dX11_bare_25 rfl ?_
      refine s_gR dX11_bare_26 fX11_26 fun v3 => ?_
      refine s_aload_n dX11_bare_29 rfl ?_
      refine s_gR dX11_bare_30 fX11_10 fun v4 => ?_
      refine s_iload_n dX11_bare_33 rfl ?_
      refine s_virtI (as := [.ref v4, .int x1]) (rest := []) dX11_bare_34 vX11_126 (CX4_bareRows _ _ _) (Nat.le_of_ble_eq_true rfl) ⟨Nat.le_refl _, Nat.le_refl _⟩ fun v5 => ?_
      refine s_istore_n (lv' := [(3, .int v5), (0, .ref x0), (1, .int x1), (2, .int x2)]) dX11_bare_37 (by decide) rfl ?_
      refine s_iload_n dX11_bare_38 rfl ?_
      refine s_if_ne (tgt := 44) dX11_bare_39 (by decide) (fun c3 => ?_) (fun c3 => ?_)
      · refine s_iload_n dX11_bare_42 rfl ?_
        exact s_ireturn dX11_bare_43 rfl rfl
      · refine s_aload_n dX11_bare_44 rfl ?_
        refine s_iload_n dX11_bare_45 rfl ?_
        refine s_if_ne (tgt := 54) dX11_bare_46 (by decide) (fun c4 => ?_) (fun c4 => ?_)
        · refine s_bipush (v := -3) dX11_bare_49 (by decide) ?_
          refine s_goto (tgt := 61) dX11_bare_51 (by decide) ?_
          refine s_locals [] rfl ?_
          exact UX11_bare_61_ok x0 (-3 : Int32)
        · refine s_aload_n dX11_bare_54 rfl ?_
          refine s_gR dX11_bare_55 fX11_26 fun v6 => ?_
          refine s_virtI (as := []) (rest := [.ref x0]) dX11_bare_58 vX11_130 (CX4_firstBare _) (Nat.le_of_ble_eq_true rfl) ⟨Nat.le_refl _, Nat.le_refl _⟩ fun v7 => ?_
          refine s_locals [] rfl ?_
          exact UX11_bare_61_ok x0 v7
theorem CX11_bare {l : Launch} {g : qG} {d : Nat} (x0 : Nat) (x1 : Int32) (x2 : Int32) : qCt l g mX11_bare (d + 12) 0 0 cvI [.ref x0, .int x1, .int x2] (FX11_bare x0 x1 x2) := s_of pn_X11 (Nat.le_of_ble_eq_true rfl) fun n => FX11_bare_ok x0 x1 x2
def FX11_sign (x0 : Nat) (x1 : Int32) : qP Int32 :=
qb (gR 11 x0 0) fun v1 =>
qb (gR 2 v1 9) fun v2 =>
qb (qcl 0 v2) fun _ => qb (FX0_addSign v2 x1) fun v3 =>
qb (qcl 11 x0) fun _ => qb (FX11_counted x0 v3) fun v4 =>
qr v4
set_option maxRecDepth 100000 in
set_option maxHeartbeats 4000000 in
theorem FX11_sign_ok {l : Launch} {g : qG} {d n : Nat} (x0 : Nat) (x1 : Int32) : qS l g mX11_sign (d + 2) n 0 0 0 0 cvI 0 [(0, .ref x0), (1, .int x1)] [] (FX11_sign x0 x1) := by
  unfold FX11_sign
  refine s_aload_n dX11_sign_0 rfl ?_
  refine s_aload_n dX11_sign_1 rfl ?_
  refine s_gR dX11_sign_2 fX11_10 fun v1 => ?_
  refine s_gR dX11_sign_5 fX11_133 fun v2 => ?_
  refine s_iload_n dX11_sign_8 rfl ?_
  refine s_virtI (as := [.int x1]) (rest := [.ref x0]) dX11_sign_9 vX11_137 (CX0_addSign _ _) (Nat.le_of_ble_eq_true rfl) ⟨Nat.le_refl _, Nat.le_refl _⟩ fun v3 => ?_
  refine s_virtI (as := [.int v3]) (rest := []) dX11_sign_12 vX11_58 (CX11_counted _ _) (Nat.le_of_ble_eq_true rfl) ⟨Nat.le_refl _, Nat.le_refl _⟩ fun v4 => ?_
  exact s_ireturn dX11_sign_15 rfl rfl
theorem CX11_sign {l : Launch} {g : qG} {d : Nat} (x0 : Nat) (x1 : Int32) : qCt l g mX11_sign (d + 2) 0 0 cvI [.ref x0, .int x1] (FX11_sign x0 x1) := s_of pn_X11 (Nat.le_of_ble_eq_true rfl) fun n => FX11_sign_ok x0 x1
def FX11_hush (x0 : Nat) : qP Int32 :=
qb (gR 11 x0 0) fun v1 =>
qb (gR 2 v1 9) fun v2 =>
qb (qcl 0 v2) fun _ => qb (FX0_forgetSigns v2) fun v3 =>
qr v3
set_option maxRecDepth 100000 in
set_option maxHeartbeats 4000000 in
theorem FX11_hush_ok {l : Launch} {g : qG} {d n : Nat} (x0 : Nat) : qS l g mX11_hush (d + 1) n 0 0 0 0 cvI 0 [(0, .ref x0)] [] (FX11_hush x0) := by
  unfold FX11_hush
  refine s_aload_n dX11_hush_0 rfl ?_
  refine s_gR dX11_hush_1 fX11_10 fun v1 => ?_
  refine s_gR dX11_hush_4 fX11_133 fun v2 => ?_
  refine s_virtI (as := []) (rest := []) dX11_hush_7 vX11_142 (CX0_forgetSigns _) (Nat.le_of_ble_eq_true rfl) ⟨Nat.le_refl _, Nat.le_refl _⟩ fun v3 => ?_
  exact s_ireturn dX11_hush_10 rfl rfl
theorem CX11_hush {l : Launch} {g : qG} {d : Nat} (x0 : Nat) : qCt l g mX11_hush (d + 1) 0 0 cvI [.ref x0] (FX11_hush x0) := s_of pn_X11 (Nat.le_of_ble_eq_true rfl) fun n => FX11_hush_ok x0
def FX11_law (x0 : Nat) (x1 : Int32) (x2 : Int32) : qP Int32 :=
qb (gR 11 x0 0) fun v1 =>
qb (gR 2 v1 9) fun v2 =>
qb (qcl 0 v2) fun _ => qb (FX0_addLawSign v2 x1 x2) fun v3 =>
qb (qcl 11 x0) fun _ => qb (FX11_counted x0 v3) fun v4 =>
qr v4
set_option maxRecDepth 100000 in
set_option maxHeartbeats 4000000 in
theorem FX11_law_ok {l : Launch} {g : qG} {d n : Nat} (x0 : Nat) (x1 : Int32) (x2 : Int32) : qS l g mX11_law (d + 2) n 0 0 0 0 cvI 0 [(0, .ref x0), (1, .int x1), (2, .int x2)] [] (FX11_law x0 x1 x2) := by
  unfold FX11_law
  refine s_aload_n dX11_law_0 rfl ?_
  refine s_aload_n dX11_law_1 rfl ?_
  refine s_gR dX11_law_2 fX11_10 fun v1 => ?_
  refine s_gR dX11_law_5 fX11_133 fun v2 => ?_
  refine s_iload_n dX11_law_8 rfl ?_
  refine s_iload_n dX11_law_9 rfl ?_
  refine s_virtI (as := [.int x1, .int x2]) (rest := [.ref x0]) dX11_law_10 vX11_145 (CX0_addLawSign _ _ _) (Nat.le_of_ble_eq_true rfl) ⟨Nat.le_refl _, Nat.le_refl _⟩ fun v3 => ?_
  refine s_virtI (as := [.int v3]) (rest := []) dX11_law_13 vX11_58 (CX11_counted _ _) (Nat.le_of_ble_eq_true rfl) ⟨Nat.le_refl _, Nat.le_refl _⟩ fun v4 => ?_
  exact s_ireturn dX11_law_16 rfl rfl
theorem CX11_law {l : Launch} {g : qG} {d : Nat} (x0 : Nat) (x1 : Int32) (x2 : Int32) : qCt l g mX11_law (d + 2) 0 0 cvI [.ref x0, .int x1, .int x2] (FX11_law x0 x1 x2) := s_of pn_X11 (Nat.le_of_ble_eq_true rfl) fun n => FX11_law_ok x0 x1 x2
def FX11_noLaw (x0 : Nat) (x1 : Int32) : qP Int32 :=
qb (gR 11 x0 0) fun v1 =>
qb (gR 2 v1 9) fun v2 =>
qb (qcl 0 v2) fun _ => qb (FX0_forgetLaw v2 x1) fun v3 =>
qb (qcl 11 x0) fun _ => qb (FX11_counted x0 v3) fun v4 =>
qr v4
set_option maxRecDepth 100000 in
set_option maxHeartbeats 4000000 in
theorem FX11_noLaw_ok {l : Launch} {g : qG} {d n : Nat} (x0 : Nat) (x1 : Int32) : qS l g mX11_noLaw (d + 2) n 0 0 0 0 cvI 0 [(0, .ref x0), (1, .int x1)] [] (FX11_noLaw x0 x1) := by
  unfold FX11_noLaw
  refine s_aload_n dX11_noLaw_0 rfl ?_
  refine s_aload_n dX11_noLaw_1 rfl ?_
  refine s_gR dX11_noLaw_2 fX11_10 fun v1 => ?_
  refine s_gR dX11_noLaw_5 fX11_133 fun v2 => ?_
  refine s_iload_n dX11_noLaw_8 rfl ?_
  refine s_virtI (as := [.int x1]) (rest := [.ref x0]) dX11_noLaw_9 vX11_148 (CX0_forgetLaw _ _) (Nat.le_of_ble_eq_true rfl) ⟨Nat.le_refl _, Nat.le_refl _⟩ fun v3 => ?_
  refine s_virtI (as := [.int v3]) (rest := []) dX11_noLaw_12 vX11_58 (CX11_counted _ _) (Nat.le_of_ble_eq_true rfl) ⟨Nat.le_refl _, Nat.le_refl _⟩ fun v4 => ?_
  exact s_ireturn dX11_noLaw_15 rfl rfl
theorem CX11_noLaw {l : Launch} {g : qG} {d : Nat} (x0 : Nat) (x1 : Int32) : qCt l g mX11_noLaw (d + 2) 0 0 cvI [.ref x0, .int x1] (FX11_noLaw x0 x1) := s_of pn_X11 (Nat.le_of_ble_eq_true rfl) fun n => FX11_noLaw_ok x0 x1
def UX11_word_24 (s0 : Nat) (s1 : Int32) : qP Int32 :=
qb (qcl 11 s0) fun _ => qb (FX11_counted s0 s1) fun v1 =>
qr v1
set_option maxRecDepth 100000 in
set_option maxHeartbeats 4000000 in
theorem UX11_word_24_ok {l : Launch} {g : qG} {d n : Nat} (s0 : Nat) (s1 : Int32) : qS l g mX11_word (d + 3) n 0 0 0 0 cvI 24 [] [.int s1, .ref s0] (UX11_word_24 s0 s1) := by
  unfold UX11_word_24
  refine s_virtI (as := [.int s1]) (rest := []) dX11_word_24 vX11_58 (CX11_counted _ _) (Nat.le_of_ble_eq_true rfl) ⟨Nat.le_refl _, Nat.le_refl _⟩ fun v1 => ?_
  exact s_ireturn dX11_word_27 rfl rfl
def FX11_word (x0 : Nat) (x1 : Int32) : qP Int32 :=
qb (FX0_isLaw x1) fun v1 =>
if v1 = 0 then (
UX11_word_24 x0 (-2 : Int32)) else (
qb (gR 11 x0 0) fun v2 =>
qb (gR 2 v2 9) fun v3 =>
qb (qcl 0 v3) fun _ => qb (FX0_firstWord v3 x1) fun v4 =>
UX11_word_24 x0 v4)
set_option maxRecDepth 100000 in
set_option maxHeartbeats 4000000 in
theorem FX11_word_ok {l : Launch} {g : qG} {d n : Nat} (x0 : Nat) (x1 : Int32) : qS l g mX11_word (d + 3) n 0 0 0 0 cvI 0 [(0, .ref x0), (1, .int x1)] [] (FX11_word x0 x1) := by
  unfold FX11_word
  refine s_aload_n dX11_word_0 rfl ?_
  refine s_iload_n dX11_word_1 rfl ?_
  refine s_staticI (as := [.int x1]) (rest := [.ref x0]) dX11_word_2 sX11_151 (CX0_isLaw _) (Nat.le_of_ble_eq_true rfl) ⟨Nat.le_refl _, Nat.le_refl _⟩ fun v1 => ?_
  refine s_if_eq (tgt := 22) dX11_word_5 (by decide) (fun c1 => ?_) (fun c1 => ?_)
  · refine s_bipush (v := -2) dX11_word_22 (by decide) ?_
    refine s_locals [] rfl ?_
    exact UX11_word_24_ok x0 (-2 : Int32)
  · refine s_aload_n dX11_word_8 rfl ?_
    refine s_gR dX11_word_9 fX11_10 fun v2 => ?_
    refine s_gR dX11_word_12 fX11_133 fun v3 => ?_
    refine s_iload_n dX11_word_15 rfl ?_
    refine s_virtI (as := [.int x1]) (rest := [.ref x0]) dX11_word_16 vX11_154 (CX0_firstWord _ _) (Nat.le_of_ble_eq_true rfl) ⟨Nat.le_refl _, Nat.le_refl _⟩ fun v4 => ?_
    refine s_goto (tgt := 24) dX11_word_19 (by decide) ?_
    refine s_locals [] rfl ?_
    exact UX11_word_24_ok x0 v4
theorem CX11_word {l : Launch} {g : qG} {d : Nat} (x0 : Nat) (x1 : Int32) : qCt l g mX11_word (d + 3) 0 0 cvI [.ref x0, .int x1] (FX11_word x0 x1) := s_of pn_X11 (Nat.le_of_ble_eq_true rfl) fun n => FX11_word_ok x0 x1
def FX11_silent (x0 : Nat) : qP Int32 :=
qb (gR 11 x0 0) fun v1 =>
qb (gR 2 v1 9) fun v2 =>
qb (qcl 0 v2) fun _ => qb (FX0_unbroken v2) fun v3 =>
qr v3
set_option maxRecDepth 100000 in
set_option maxHeartbeats 4000000 in
theorem FX11_silent_ok {l : Launch} {g : qG} {d n : Nat} (x0 : Nat) : qS l g mX11_silent (d + 4) n 0 0 0 0 cvI 0 [(0, .ref x0)] [] (FX11_silent x0) := by
  unfold FX11_silent
  refine s_aload_n dX11_silent_0 rfl ?_
  refine s_gR dX11_silent_1 fX11_10 fun v1 => ?_
  refine s_gR dX11_silent_4 fX11_133 fun v2 => ?_
  refine s_virtI (as := []) (rest := []) dX11_silent_7 vX11_157 (CX0_unbroken _) (Nat.le_of_ble_eq_true rfl) ⟨Nat.le_refl _, Nat.le_refl _⟩ fun v3 => ?_
  exact s_ireturn dX11_silent_10 rfl rfl
theorem CX11_silent {l : Launch} {g : qG} {d : Nat} (x0 : Nat) : qCt l g mX11_silent (d + 4) 0 0 cvI [.ref x0] (FX11_silent x0) := s_of pn_X11 (Nat.le_of_ble_eq_true rfl) fun n => FX11_silent_ok x0
def UX11_met_12 (x0 : Nat) : qP Int32 :=
qb (qcl 11 x0) fun _ => qb (FX11_badAsked x0) fun v1 =>
qr v1
set_option maxRecDepth 100000 in
set_option maxHeartbeats 4000000 in
theorem UX11_met_12_ok {l : Launch} {g : qG} {d n : Nat} (x0 : Nat) : qS l g mX11_met (d + 5) n 0 0 0 0 cvI 12 [(0, .ref x0)] [] (UX11_met_12 x0) := by
  unfold UX11_met_12
  refine s_aload_n dX11_met_12 rfl ?_
  refine s_virtI (as := []) (rest := []) dX11_met_13 vX11_87 (CX11_badAsked _) (Nat.le_of_ble_eq_true rfl) ⟨Nat.le_refl _, Nat.le_refl _⟩ fun v1 => ?_
  exact s_ireturn dX11_met_16 rfl rfl
def FX11_met (x0 : Nat) (x1 : Int32) (x2 : Int32) : qP Int32 :=
qb (FX0_isLetter x1) fun v1 =>
if v1 = 0 then (
UX11_met_12 x0) else (
if (-1 : Int32) ≤ x2 then (
qb (gR 11 x0 0) fun v2 =>
qb (gR 2 v2 9) fun v3 =>
qb (qcl 0 v3) fun _ => qb (FX0_fewestMore v3 x1) fun v4 =>
if v4 = (-1 : Int32) then (
qr v4) else (
if x2 = (-1 : Int32) then (
qr v4) else (
if v4 ≤ x2 then (
qr (-5 : Int32)) else (
qb (gR 11 x0 0) fun v5 =>
qb (gR 2 v5 9) fun v6 =>
qb (qcl 0 v6) fun _ => qb (FX0_moreSign v6 x2) fun v7 =>
qr v7)))) else (
UX11_met_12 x0))
set_option maxRecDepth 100000 in
set_option maxHeartbeats 4000000 in
theorem FX11_met_ok {l : Launch} {g : qG} {d n : Nat} (x0 : Nat) (x1 : Int32) (x2 : Int32) : qS l g mX11_met (d + 5) n 0 0 0 0 cvI 0 [(0, .ref x0), (1, .int x1), (2, .int x2)] [] (FX11_met x0 x1 x2) := by
  unfold FX11_met
  refine s_iload_n dX11_met_0 rfl ?_
  refine s_staticI (as := [.int x1]) (rest := []) dX11_met_1 sX11_160 (CX0_isLetter _) (Nat.le_of_ble_eq_true rfl) ⟨Nat.le_refl _, Nat.le_refl _⟩ fun v1 => ?_
  refine s_if_eq (tgt := 12) dX11_met_4 (by decide) (fun c1 => ?_) (fun c1 => ?_)
  · refine s_locals [0] rfl ?_
    exact UX11_met_12_ok x0
  · refine s_iload_n dX11_met_7 rfl ?_
    refine s_iconst (v := -1) dX11_met_8 (by decide) ?_
    refine s_icmp_ge (tgt := 17) dX11_met_9 (by decide) (fun c2 => ?_) (fun c2 => ?_)
    · refine s_aload_n dX11_met_17 rfl ?_
      refine s_gR dX11_met_18 fX11_10 fun v2 => ?_
      refine s_gR dX11_met_21 fX11_133 fun v3 => ?_
      refine s_iload_n dX11_met_24 rfl ?_
      refine s_virtI (as := [.int x1]) (rest := []) dX11_met_25 vX11_163 (CX0_fewestMore _ _) (Nat.le_of_ble_eq_true rfl) ⟨Nat.le_refl _, Nat.le_refl _⟩ fun v4 => ?_
      refine s_istore_n (lv' := [(3, .int v4), (0, .ref x0), (1, .int x1), (2, .int x2)]) dX11_met_28 (by decide) rfl ?_
      refine s_iload_n dX11_met_29 rfl ?_
      refine s_iconst (v := -1) dX11_met_30 (by decide) ?_
      refine s_icmp_eq (tgt := 39) dX11_met_31 (by decide) (fun c3 => ?_) (fun c3 => ?_)
      · refine s_iload_n dX11_met_39 rfl ?_
        exact s_ireturn dX11_met_40 rfl rfl
      · refine s_iload_n dX11_met_34 rfl ?_
        refine s_iconst (v := -1) dX11_met_35 (by decide) ?_
        refine s_icmp_ne (tgt := 41) dX11_met_36 (by decide) (fun c4 => ?_) (fun c4 => ?_)
        · refine s_iload_n dX11_met_39 rfl ?_
          exact s_ireturn dX11_met_40 rfl rfl
        · refine s_iload_n dX11_met_41 rfl ?_
          refine s_iload_n dX11_met_42 rfl ?_
          refine s_icmp_ge (tgt := 60) dX11_met_43 (by decide) (fun c5 => ?_) (fun c5 => ?_)
          · refine s_bipush (v := -5) dX11_met_60 (by decide) ?_
            exact s_ireturn dX11_met_62 rfl rfl
          · refine s_aload_n dX11_met_46 rfl ?_
            refine s_gR dX11_met_47 fX11_10 fun v5 => ?_
            refine s_gR dX11_met_50 fX11_133 fun v6 => ?_
            refine s_iload_n dX11_met_53 rfl ?_
            refine s_virtI (as := [.int x2]) (rest := []) dX11_met_54 vX11_166 (CX0_moreSign _ _) (Nat.le_of_ble_eq_true rfl) ⟨Nat.le_refl _, Nat.le_refl _⟩ fun v7 => ?_
            refine s_goto (tgt := 62) dX11_met_57 (by decide) ?_
            exact s_ireturn dX11_met_62 rfl rfl
    · refine s_locals [0] rfl ?_
      exact UX11_met_12_ok x0
theorem CX11_met {l : Launch} {g : qG} {d : Nat} (x0 : Nat) (x1 : Int32) (x2 : Int32) : qCt l g mX11_met (d + 5) 0 0 cvI [.ref x0, .int x1, .int x2] (FX11_met x0 x1 x2) := s_of pn_X11 (Nat.le_of_ble_eq_true rfl) fun n => FX11_met_ok x0 x1 x2
def FX11_show (x0 : Nat) (x1 : Int32) (x2 : Int32) : qP Int32 :=
qb (gR 11 x0 0) fun v1 =>
qb (gR 2 v1 10) fun v2 =>
qb (qcl 8 v2) fun _ => qb (FX8_add v2 x1 x2) fun v3 =>
qb (qcl 11 x0) fun _ => qb (FX11_counted x0 v3) fun v4 =>
qr v4
set_option maxRecDepth 100000 in
set_option maxHeartbeats 4000000 in
theorem FX11_show_ok {l : Launch} {g : qG} {d n : Nat} (x0 : Nat) (x1 : Int32) (x2 : Int32) : qS l g mX11_show (d + 1) n 0 0 0 0 cvI 0 [(0, .ref x0), (1, .int x1), (2, .int x2)] [] (FX11_show x0 x1 x2) := by
  unfold FX11_show
  refine s_aload_n dX11_show_0 rfl ?_
  refine s_aload_n dX11_show_1 rfl ?_
  refine s_gR dX11_show_2 fX11_10 fun v1 => ?_
  refine s_gR dX11_show_5 fX11_169 fun v2 => ?_
  refine s_iload_n dX11_show_8 rfl ?_
  refine s_iload_n dX11_show_9 rfl ?_
  refine s_virtI (as := [.int x1, .int x2]) (rest := [.ref x0]) dX11_show_10 vX11_173 (CX8_add _ _ _) (Nat.le_of_ble_eq_true rfl) ⟨Nat.le_refl _, Nat.le_refl _⟩ fun v3 => ?_
  refine s_virtI (as := [.int v3]) (rest := []) dX11_show_13 vX11_58 (CX11_counted _ _) (Nat.le_of_ble_eq_true rfl) ⟨Nat.le_refl _, Nat.le_refl _⟩ fun v4 => ?_
  exact s_ireturn dX11_show_16 rfl rfl
theorem CX11_show {l : Launch} {g : qG} {d : Nat} (x0 : Nat) (x1 : Int32) (x2 : Int32) : qCt l g mX11_show (d + 1) 0 0 cvI [.ref x0, .int x1, .int x2] (FX11_show x0 x1 x2) := s_of pn_X11 (Nat.le_of_ble_eq_true rfl) fun n => FX11_show_ok x0 x1 x2
def FX11_noTrial (x0 : Nat) : qP Int32 :=
qb (gR 11 x0 0) fun v1 =>
qb (gR 2 v1 10) fun v2 =>
qb (qcl 8 v2) fun _ => qb (FX8_forget v2) fun v3 =>
qr v3
set_option maxRecDepth 100000 in
set_option maxHeartbeats 4000000 in
theorem FX11_noTrial_ok {l : Launch} {g : qG} {d n : Nat} (x0 : Nat) : qS l g mX11_noTrial (d + 1) n 0 0 0 0 cvI 0 [(0, .ref x0)] [] (FX11_noTrial x0) := by
  unfold FX11_noTrial
  refine s_aload_n dX11_noTrial_0 rfl ?_
  refine s_gR dX11_noTrial_1 fX11_10 fun v1 => ?_
  refine s_gR dX11_noTrial_4 fX11_169 fun v2 => ?_
  refine s_virtI (as := []) (rest := []) dX11_noTrial_7 vX11_178 (CX8_forget _) (Nat.le_of_ble_eq_true rfl) ⟨Nat.le_refl _, Nat.le_refl _⟩ fun v3 => ?_
  exact s_ireturn dX11_noTrial_10 rfl rfl
theorem CX11_noTrial {l : Launch} {g : qG} {d : Nat} (x0 : Nat) : qCt l g mX11_noTrial (d + 1) 0 0 cvI [.ref x0] (FX11_noTrial x0) := s_of pn_X11 (Nat.le_of_ble_eq_true rfl) fun n => FX11_noTrial_ok x0
def UX11_lasts_19 (x0 : Nat) : qP Int32 :=
qb (qcl 11 x0) fun _ => qb (FX11_counted x0 (-2 : Int32)) fun v1 =>
qr v1
set_option maxRecDepth 100000 in
set_option maxHeartbeats 4000000 in
theorem UX11_lasts_19_ok {l : Launch} {g : qG} {d n : Nat} (x0 : Nat) : qS l g mX11_lasts (d + 4) n 0 0 0 0 cvI 19 [(0, .ref x0)] [] (UX11_lasts_19 x0) := by
  unfold UX11_lasts_19
  refine s_aload_n dX11_lasts_19 rfl ?_
  refine s_bipush (v := -2) dX11_lasts_20 (by decide) ?_
  refine s_virtI (as := [.int (-2 : Int32)]) (rest := []) dX11_lasts_22 vX11_58 (CX11_counted _ _) (Nat.le_of_ble_eq_true rfl) ⟨Nat.le_refl _, Nat.le_refl _⟩ fun v1 => ?_
  exact s_ireturn dX11_lasts_25 rfl rfl
def FX11_lasts (x0 : Nat) (x1 : Int32) (x2 : Int32) : qP Int32 :=
qb (FX11_within x1 (1 : Int32) (20 : Int32)) fun v1 =>
if v1 = 0 then (
UX11_lasts_19 x0) else (
qb (FX11_within x2 (0 : Int32) (1 : Int32)) fun v2 =>
if v2 = 0 then (
UX11_lasts_19 x0) else (
qb (gR 11 x0 0) fun v3 =>
qb (gR 2 v3 10) fun v4 =>
qb (qcl 8 v4) fun _ => qb (FX8_mostShown v4 x1) fun v5 =>
if x2 = 0 then (
qr v5) else (
qb (gR 11 x0 0) fun v6 =>
qb (gR 2 v6 10) fun v7 =>
qb (qcl 8 v7) fun _ => qb (FX8_firstCharge v7) fun v8 =>
qr v8)))
set_option maxRecDepth 100000 in
set_option maxHeartbeats 4000000 in
theorem FX11_lasts_ok {l : Launch} {g : qG} {d n : Nat} (x0 : Nat) (x1 : Int32) (x2 : Int32) : qS l g mX11_lasts (d + 4) n 0 0 0 0 cvI 0 [(0, .ref x0), (1, .int x1), (2, .int x2)] [] (FX11_lasts x0 x1 x2) := by
  unfold FX11_lasts
  refine s_iload_n dX11_lasts_0 rfl ?_
  refine s_iconst (v := 1) dX11_lasts_1 (by decide) ?_
  refine s_bipush (v := 20) dX11_lasts_2 (by decide) ?_
  refine s_staticI (as := [.int x1, .int (1 : Int32), .int (20 : Int32)]) (rest := []) dX11_lasts_4 sX11_83 (CX11_within _ _ _) (Nat.le_of_ble_eq_true rfl) ⟨Nat.le_refl _, Nat.le_refl _⟩ fun v1 => ?_
  refine s_if_eq (tgt := 19) dX11_lasts_7 (by decide) (fun c1 => ?_) (fun c1 => ?_)
  · refine s_locals [0] rfl ?_
    exact UX11_lasts_19_ok x0
  · refine s_iload_n dX11_lasts_10 rfl ?_
    refine s_iconst (v := 0) dX11_lasts_11 (by decide) ?_
    refine s_iconst (v := 1) dX11_lasts_12 (by decide) ?_
    refine s_staticI (as := [.int x2, .int (0 : Int32), .int (1 : Int32)]) (rest := []) dX11_lasts_13 sX11_83 (CX11_within _ _ _) (Nat.le_of_ble_eq_true rfl) ⟨Nat.le_refl _, Nat.le_refl _⟩ fun v2 => ?_
    refine s_if_ne (tgt := 26) dX11_lasts_16 (by decide) (fun c2 => ?_) (fun c2 => ?_)
    · refine s_locals [0] rfl ?_
      exact UX11_lasts_19_ok x0
    · refine s_aload_n dX11_lasts_26 rfl ?_
      refine s_gR dX11_lasts_27 fX11_10 fun v3 => ?_
      refine s_gR dX11_lasts_30 fX11_169 fun v4 => ?_
      refine s_iload_n dX11_lasts_33 rfl ?_
      refine s_virtI (as := [.int x1]) (rest := []) dX11_lasts_34 vX11_181 (CX8_mostShown _ _) (Nat.le_of_ble_eq_true rfl) ⟨Nat.le_refl _, Nat.le_refl _⟩ fun v5 => ?_
      refine s_istore_n (lv' := [(3, .int v5), (0, .ref x0), (1, .int x1), (2, .int x2)]) dX11_lasts_37 (by decide) rfl ?_
      refine s_iload_n dX11_lasts_38 rfl ?_
      refine s_if_ne (tgt := 46) dX11_lasts_39 (by decide) (fun c3 => ?_) (fun c3 => ?_)
      · refine s_iload_n dX11_lasts_42 rfl ?_
        refine s_goto (tgt := 56) dX11_lasts_43 (by decide) ?_
        exact s_ireturn dX11_lasts_56 rfl rfl
      · refine s_aload_n dX11_lasts_46 rfl ?_
        refine s_gR dX11_lasts_47 fX11_10 fun v6 => ?_
        refine s_gR dX11_lasts_50 fX11_169 fun v7 => ?_
        refine s_virtI (as := []) (rest := []) dX11_lasts_53 vX11_184 (CX8_firstCharge _) (Nat.le_of_ble_eq_true rfl) ⟨Nat.le_refl _, Nat.le_refl _⟩ fun v8 => ?_
        exact s_ireturn dX11_lasts_56 rfl rfl
theorem CX11_lasts {l : Launch} {g : qG} {d : Nat} (x0 : Nat) (x1 : Int32) (x2 : Int32) : qCt l g mX11_lasts (d + 4) 0 0 cvI [.ref x0, .int x1, .int x2] (FX11_lasts x0 x1 x2) := s_of pn_X11 (Nat.le_of_ble_eq_true rfl) fun n => FX11_lasts_ok x0 x1 x2
def FX11_type (x0 : Nat) (x1 : Int64) (x3 : Int32) : qP Int32 :=
qb (gR 11 x0 4) fun v1 =>
qb (qcl 3 v1) fun _ => qb (FX3_addBytes v1 x1 x3) fun v2 =>
qb (qcl 11 x0) fun _ => qb (FX11_counted x0 v2) fun v3 =>
qr v3
set_option maxRecDepth 100000 in
set_option maxHeartbeats 4000000 in
theorem FX11_type_ok {l : Launch} {g : qG} {d n : Nat} (x0 : Nat) (x1 : Int64) (x3 : Int32) : qS l g mX11_type (d + 1) n 0 0 0 0 cvI 0 [(0, .ref x0), (1, .long x1), (3, .int x3)] [] (FX11_type x0 x1 x3) := by
  unfold FX11_type
  refine s_aload_n dX11_type_0 rfl ?_
  refine s_aload_n dX11_type_1 rfl ?_
  refine s_gR dX11_type_2 fX11_33 fun v1 => ?_
  refine s_lload_n dX11_type_5 rfl ?_
  refine s_iload_n dX11_type_6 rfl ?_
  refine s_virtI (as := [.long x1, .int x3]) (rest := [.ref x0]) dX11_type_7 vX11_187 (CX3_addBytes _ _ _) (Nat.le_of_ble_eq_true rfl) ⟨Nat.le_refl _, Nat.le_refl _⟩ fun v2 => ?_
  refine s_virtI (as := [.int v2]) (rest := []) dX11_type_10 vX11_58 (CX11_counted _ _) (Nat.le_of_ble_eq_true rfl) ⟨Nat.le_refl _, Nat.le_refl _⟩ fun v3 => ?_
  exact s_ireturn dX11_type_13 rfl rfl
theorem CX11_type {l : Launch} {g : qG} {d : Nat} (x0 : Nat) (x1 : Int64) (x3 : Int32) : qCt l g mX11_type (d + 1) 0 0 cvI [.ref x0, .long x1, .int x3] (FX11_type x0 x1 x3) := s_of pn_X11 (Nat.le_of_ble_eq_true rfl) fun n => FX11_type_ok x0 x1 x3
def FX11_clear (x0 : Nat) : qP Int32 :=
qb (gR 11 x0 4) fun v1 =>
qb (qcl 3 v1) fun _ => qb (FX3_forget v1) fun v2 =>
qr v2
set_option maxRecDepth 100000 in
set_option maxHeartbeats 4000000 in
theorem FX11_clear_ok {l : Launch} {g : qG} {d n : Nat} (x0 : Nat) : qS l g mX11_clear (d + 1) n 0 0 0 0 cvI 0 [(0, .ref x0)] [] (FX11_clear x0) := by
  unfold FX11_clear
  refine s_aload_n dX11_clear_0 rfl ?_
  refine s_gR dX11_clear_1 fX11_33 fun v1 => ?_
  refine s_virtI (as := []) (rest := []) dX11_clear_4 vX11_191 (CX3_forget _) (Nat.le_of_ble_eq_true rfl) ⟨Nat.le_refl _, Nat.le_refl _⟩ fun v2 => ?_
  exact s_ireturn dX11_clear_7 rfl rfl
theorem CX11_clear {l : Launch} {g : qG} {d : Nat} (x0 : Nat) : qCt l g mX11_clear (d + 1) 0 0 cvI [.ref x0] (FX11_clear x0) := s_of pn_X11 (Nat.le_of_ble_eq_true rfl) fun n => FX11_clear_ok x0
def FX11_read (x0 : Nat) : qP Int32 :=
qb (gR 11 x0 4) fun v1 =>
qb (qcl 3 v1) fun _ => qb (FX3_fault v1) fun v2 =>
if v2 = (-1 : Int32) then (
qb (gR 11 x0 1) fun v3 =>
qb (qcl 2 v3) fun _ => qb (FX2_empty v3) fun v4 =>
qb (gR 11 x0 4) fun v5 =>
qb (gR 11 x0 1) fun v6 =>
qb (qcl 3 v5) fun _ => qb (FX3_tell v5 v6) fun v7 =>
if v7 = (-1 : Int32) then (
qb (gR 11 x0 0) fun v8 =>
qb (gR 11 x0 1) fun v9 =>
qb (qcl 2 v8) fun _ => qb (FX2_become v8 v9) fun v10 =>
qb (gR 11 x0 4) fun v11 =>
qb (qcl 3 v11) fun _ => qb (FX3_items v11) fun v12 =>
qr v12) else (
qr ((-1000 : Int32) - v7))) else (
qr ((-10 : Int32) - v2))
set_option maxRecDepth 100000 in
set_option maxHeartbeats 4000000 in
theorem FX11_read_ok {l : Launch} {g : qG} {d n : Nat} (x0 : Nat) : qS l g mX11_read (d + 8) n 0 0 0 0 cvI 0 [(0, .ref x0)] [] (FX11_read x0) := by
  unfold FX11_read
  refine s_aload_n dX11_read_0 rfl ?_
  refine s_gR dX11_read_1 fX11_33 fun v1 => ?_
  refine s_virtI (as := []) (rest := []) dX11_read_4 vX11_192 (CX3_fault _) (Nat.le_of_ble_eq_true rfl) ⟨Nat.le_refl _, Nat.le_refl _⟩ fun v2 => ?_
  refine s_istore_n (lv' := [(1, .int v2), (0, .ref x0)]) dX11_read_7 (by decide) rfl ?_
  refine s_iload_n dX11_read_8 rfl ?_
  refine s_iconst (v := -1) dX11_read_9 (by decide) ?_
  refine s_icmp_eq (tgt := 18) dX11_read_10 (by decide) (fun c1 => ?_) (fun c1 => ?_)
  · refine s_aload_n dX11_read_18 rfl ?_
    refine s_gR dX11_read_19 fX11_16 fun v3 => ?_
    refine s_virtV (as := []) (rest := []) dX11_read_22 vX11_195 (CX2_empty _) (Nat.le_of_ble_eq_true rfl) ⟨Nat.le_refl _, Nat.le_refl _⟩ fun v4 => ?_
    refine s_aload_n dX11_read_25 rfl ?_
    refine s_gR dX11_read_26 fX11_33 fun v5 => ?_
    refine s_aload_n dX11_read_29 rfl ?_
    refine s_gR dX11_read_30 fX11_16 fun v6 => ?_
    refine s_virtI (as := [.ref v6]) (rest := []) dX11_read_33 vX11_198 (CX3_tell _ _) (Nat.le_of_ble_eq_true rfl) ⟨Nat.le_refl _, Nat.le_refl _⟩ fun v7 => ?_
    refine s_istore_n (lv' := [(2, .int v7), (1, .int v2), (0, .ref x0)]) dX11_read_36 (by decide) rfl ?_
    refine s_iload_n dX11_read_37 rfl ?_
    refine s_iconst (v := -1) dX11_read_38 (by decide) ?_
    refine s_icmp_eq (tgt := 48) dX11_read_39 (by decide) (fun c2 => ?_) (fun c2 => ?_)
    · refine s_aload_n dX11_read_48 rfl ?_
      refine s_gR dX11_read_49 fX11_10 fun v8 => ?_
      refine s_aload_n dX11_read_52 rfl ?_
      refine s_gR dX11_read_53 fX11_16 fun v9 => ?_
      refine s_virtV (as := [.ref v9]) (rest := []) dX11_read_56 vX11_202 (CX2_become _ _) (Nat.le_of_ble_eq_true rfl) ⟨Nat.le_refl _, Nat.le_refl _⟩ fun v10 => ?_
      refine s_aload_n dX11_read_59 rfl ?_
      refine s_gR dX11_read_60 fX11_33 fun v11 => ?_
      refine s_virtI (as := []) (rest := []) dX11_read_63 vX11_206 (CX3_items _) (Nat.le_of_ble_eq_true rfl) ⟨Nat.le_refl _, Nat.le_refl _⟩ fun v12 => ?_
      exact s_ireturn dX11_read_66 rfl rfl
    · refine s_sipush (v := -1000) dX11_read_42 (by decide) ?_
      refine s_iload_n dX11_read_45 rfl ?_
      refine s_isub dX11_read_46 ?_
      exact s_ireturn dX11_read_47 rfl rfl
  · refine s_bipush (v := -10) dX11_read_13 (by decide) ?_
    refine s_iload_n dX11_read_15 rfl ?_
    refine s_isub dX11_read_16 ?_
    exact s_ireturn dX11_read_17 rfl rfl
theorem CX11_read {l : Launch} {g : qG} {d : Nat} (x0 : Nat) : qCt l g mX11_read (d + 8) 0 0 cvI [.ref x0] (FX11_read x0) := s_of pn_X11 (Nat.le_of_ble_eq_true rfl) fun n => FX11_read_ok x0
def FX11_part (x0 : Nat) (x1 : Int32) : qP Int64 :=
if x1 = 0 then (
qb (gL 11 x0 5) fun v1 =>
qr v1) else (
if x1 = (1 : Int32) then (
qb (gL 11 x0 6) fun v2 =>
qr v2) else (
qb (qcl 11 x0) fun _ => qb (FX11_counted x0 (-2 : Int32)) fun v3 =>
qr (v3).toInt64))
set_option maxRecDepth 100000 in
set_option maxHeartbeats 4000000 in
theorem FX11_part_ok {l : Launch} {g : qG} {d n : Nat} (x0 : Nat) (x1 : Int32) : qS l g mX11_part (d + 1) n 0 0 0 0 cvL 0 [(0, .ref x0), (1, .int x1)] [] (FX11_part x0 x1) := by
  unfold FX11_part
  refine s_iload_n dX11_part_0 rfl ?_
  refine s_if_ne (tgt := 9) dX11_part_1 (by decide) (fun c1 => ?_) (fun c1 => ?_)
  · refine s_aload_n dX11_part_4 rfl ?_
    refine s_gL dX11_part_5 fX11_37 fun v1 => ?_
    exact s_lreturn dX11_part_8 rfl
  · refine s_iload_n dX11_part_9 rfl ?_
    refine s_iconst (v := 1) dX11_part_10 (by decide) ?_
    refine s_icmp_ne (tgt := 21) dX11_part_11 (by decide) (fun c2 => ?_) (fun c2 => ?_)
    · refine s_aload_n dX11_part_14 rfl ?_
      refine s_gL dX11_part_15 fX11_41 fun v2 => ?_
      refine s_goto (tgt := 28) dX11_part_18 (by decide) ?_
      exact s_lreturn dX11_part_28 rfl
    · refine s_aload_n dX11_part_21 rfl ?_
      refine s_bipush (v := -2) dX11_part_22 (by decide) ?_
      refine s_virtI (as := [.int (-2 : Int32)]) (rest := []) dX11_part_24 vX11_58 (CX11_counted _ _) (Nat.le_of_ble_eq_true rfl) ⟨Nat.le_refl _, Nat.le_refl _⟩ fun v3 => ?_
      refine s_i2l dX11_part_27 ?_
      exact s_lreturn dX11_part_28 rfl
theorem CX11_part {l : Launch} {g : qG} {d : Nat} (x0 : Nat) (x1 : Int32) : qCt l g mX11_part (d + 1) 0 0 cvL [.ref x0, .int x1] (FX11_part x0 x1) := s_of pn_X11 (Nat.le_of_ble_eq_true rfl) fun n => FX11_part_ok x0 x1
def FX11_imageN (x0 : Nat) (x1 : Int32) : qP Int32 :=
qb (FX11_within x1 (0 : Int32) (1 : Int32)) fun v1 =>
if v1 = 0 then (
qb (qcl 11 x0) fun _ => qb (FX11_counted x0 (-2 : Int32)) fun v2 =>
qfail) else (
qb (gR 11 x0 2) fun v3 =>
qb (aQ 1 v3 x1) fun y => qmo y (
qb (gR 11 x0 2) fun v5 =>
qb (qnw (.inr (.inr (2, [.null, .null, .null, .null, .int 0, .int 0, .null, .null, .int 0, .null, .null])))) fun v6 =>
qb (FX2_init v6) fun v7 =>
qb (sQ 1 v5 x1 v6) fun _ =>
qb (gR 11 x0 2) fun v8 =>
qb (aQ 1 v8 x1) fun y => qb (qso y) fun v9 =>
qb (gR 11 x0 0) fun v10 =>
qb (qcl 2 v9) fun _ => qb (FX2_become v9 v10) fun v11 =>
qr (1 : Int32)) (fun v4 =>
qfail))
set_option maxRecDepth 100000 in
set_option maxHeartbeats 4000000 in
theorem FX11_imageN_ok {l : Launch} {g : qG} {d n : Nat} (x0 : Nat) (x1 : Int32) : qS l g mX11_image (d + 5) n 23 538 0 0 cvI 0 [(0, .ref x0), (1, .int x1)] [] (FX11_imageN x0 x1) := by
  unfold FX11_imageN
  refine s_iload_n dX11_image_0 rfl ?_
  refine s_iconst (v := 0) dX11_image_1 (by decide) ?_
  refine s_iconst (v := 1) dX11_image_2 (by decide) ?_
  refine s_staticI (as := [.int x1, .int (0 : Int32), .int (1 : Int32)]) (rest := []) dX11_image_3 sX11_83 (CX11_within _ _ _) (Nat.le_of_ble_eq_true rfl) ⟨by decide, by decide⟩ fun v1 => ?_
  refine s_if_ne (tgt := 16) dX11_image_6 (by decide) (fun c1 => ?_) (fun c1 => ?_)
  · refine s_aload_n dX11_image_9 rfl ?_
    refine s_bipush (v := -2) dX11_image_10 (by decide) ?_
    refine s_virtI (as := [.int (-2 : Int32)]) (rest := []) dX11_image_12 vX11_58 (CX11_counted _ _) (Nat.le_of_ble_eq_true rfl) ⟨by decide, by decide⟩ fun v2 => ?_
    exact s_fail
  · refine s_aload_n dX11_image_16 rfl ?_
    refine s_gR dX11_image_17 fX11_19 fun v3 => ?_
    refine s_iload_n dX11_image_20 rfl ?_
    refine s_aN (tgt := 38) (by decide) dX11_image_21 dX11_image_22 (by decide) ?_ (fun v4 => ?_)
    · refine s_aload_n dX11_image_25 rfl ?_
      refine s_gR dX11_image_26 fX11_19 fun v5 => ?_
      refine s_iload_n dX11_image_29 rfl ?_
      refine s_new dX11_image_30 nX11_7 (by decide) (by decide) fun v6 => ?_
      refine s_dup dX11_image_33 rfl ?_
      refine s_initNV (as := []) (rest := [.ref v6, .int x1, .ref v5]) dX11_image_34 iX11_9 (CX2_init _) (Nat.le_of_ble_eq_true rfl) ⟨by decide, by decide⟩ fun v7 => ?_
      refine s_aastore kw_casts dX11_image_37 ?_
      refine s_aload_n dX11_image_38 rfl ?_
      refine s_gR dX11_image_39 fX11_19 fun v8 => ?_
      refine s_iload_n dX11_image_42 rfl ?_
      refine s_aR (by decide) dX11_image_43 fun v9 => ?_
      refine s_aload_n dX11_image_44 rfl ?_
      refine s_gR dX11_image_45 fX11_10 fun v10 => ?_
      refine s_virtV (as := [.ref v10]) (rest := []) dX11_image_48 vX11_202 (CX2_become _ _) (Nat.le_of_ble_eq_true rfl) ⟨by decide, by decide⟩ fun v11 => ?_
      refine s_iconst (v := 1) dX11_image_51 (by decide) ?_
      exact s_ireturn dX11_image_52 rfl rfl
    · exact s_fail
theorem CX11_imageN {l : Launch} {g : qG} {d : Nat} (x0 : Nat) (x1 : Int32) : qCt l g mX11_image (d + 5) 23 538 cvI [.ref x0, .int x1] (FX11_imageN x0 x1) := s_of pn_X11 (Nat.le_of_ble_eq_true rfl) fun n => FX11_imageN_ok x0 x1
def FX11_imageS (x0 : Nat) (x1 : Int32) : qP Int32 :=
qb (FX11_within x1 (0 : Int32) (1 : Int32)) fun v1 =>
if v1 = 0 then (
qb (qcl 11 x0) fun _ => qb (FX11_counted x0 (-2 : Int32)) fun v2 =>
qr v2) else (
qb (gR 11 x0 2) fun v3 =>
qb (aQ 1 v3 x1) fun y => qmo y (
qfail) (fun v4 =>
qb (gR 11 x0 2) fun v5 =>
qb (aQ 1 v5 x1) fun y => qb (qso y) fun v6 =>
qb (gR 11 x0 0) fun v7 =>
qb (qcl 2 v6) fun _ => qb (FX2_become v6 v7) fun v8 =>
qr (1 : Int32)))
set_option maxRecDepth 100000 in
set_option maxHeartbeats 4000000 in
theorem FX11_imageS_ok {l : Launch} {g : qG} {d n : Nat} (x0 : Nat) (x1 : Int32) : qS l g mX11_image (d + 5) n 0 0 0 0 cvI 0 [(0, .ref x0), (1, .int x1)] [] (FX11_imageS x0 x1) := by
  unfold FX11_imageS
  refine s_iload_n dX11_image_0 rfl ?_
  refine s_iconst (v := 0) dX11_image_1 (by decide) ?_
  refine s_iconst (v := 1) dX11_image_2 (by decide) ?_
  refine s_staticI (as := [.int x1, .int (0 : Int32), .int (1 : Int32)]) (rest := []) dX11_image_3 sX11_83 (CX11_within _ _ _) (Nat.le_of_ble_eq_true rfl) ⟨Nat.le_refl _, Nat.le_refl _⟩ fun v1 => ?_
  refine s_if_ne (tgt := 16) dX11_image_6 (by decide) (fun c1 => ?_) (fun c1 => ?_)
  · refine s_aload_n dX11_image_9 rfl ?_
    refine s_bipush (v := -2) dX11_image_10 (by decide) ?_
    refine s_virtI (as := [.int (-2 : Int32)]) (rest := []) dX11_image_12 vX11_58 (CX11_counted _ _) (Nat.le_of_ble_eq_true rfl) ⟨Nat.le_refl _, Nat.le_refl _⟩ fun v2 => ?_
    exact s_ireturn dX11_image_15 rfl rfl
  · refine s_aload_n dX11_image_16 rfl ?_
    refine s_gR dX11_image_17 fX11_19 fun v3 => ?_
    refine s_iload_n dX11_image_20 rfl ?_
    refine s_aN (tgt := 38) (by decide) dX11_image_21 dX11_image_22 (by decide) ?_ (fun v4 => ?_)
    · exact s_fail
    · refine s_aload_n dX11_image_38 rfl ?_
      refine s_gR dX11_image_39 fX11_19 fun v5 => ?_
      refine s_iload_n dX11_image_42 rfl ?_
      refine s_aR (by decide) dX11_image_43 fun v6 => ?_
      refine s_aload_n dX11_image_44 rfl ?_
      refine s_gR dX11_image_45 fX11_10 fun v7 => ?_
      refine s_virtV (as := [.ref v7]) (rest := []) dX11_image_48 vX11_202 (CX2_become _ _) (Nat.le_of_ble_eq_true rfl) ⟨Nat.le_refl _, Nat.le_refl _⟩ fun v8 => ?_
      refine s_iconst (v := 1) dX11_image_51 (by decide) ?_
      exact s_ireturn dX11_image_52 rfl rfl
theorem CX11_imageS {l : Launch} {g : qG} {d : Nat} (x0 : Nat) (x1 : Int32) : qCt l g mX11_image (d + 5) 0 0 cvI [.ref x0, .int x1] (FX11_imageS x0 x1) := s_of pn_X11 (Nat.le_of_ble_eq_true rfl) fun n => FX11_imageS_ok x0 x1
def FX11_from (x0 : Nat) (x1 : Int32) : qP Int32 :=
qb (FX11_within x1 (0 : Int32) (1 : Int32)) fun v1 =>
if v1 = 0 then (
qb (qcl 11 x0) fun _ => qb (FX11_counted x0 (-2 : Int32)) fun v2 =>
qr v2) else (
qb (gR 11 x0 2) fun v3 =>
qb (aQ 1 v3 x1) fun y => qmo y (
qb (qcl 11 x0) fun _ => qb (FX11_counted x0 (-3 : Int32)) fun v5 =>
qr v5) (fun v4 =>
qb (gR 11 x0 0) fun v6 =>
qb (gR 11 x0 2) fun v7 =>
qb (aQ 1 v7 x1) fun y => qb (qso y) fun v8 =>
qb (qcl 2 v6) fun _ => qb (FX2_become v6 v8) fun v9 =>
qr (1 : Int32)))
set_option maxRecDepth 100000 in
set_option maxHeartbeats 4000000 in
theorem FX11_from_ok {l : Launch} {g : qG} {d n : Nat} (x0 : Nat) (x1 : Int32) : qS l g mX11_from (d + 3) n 0 0 0 0 cvI 0 [(0, .ref x0), (1, .int x1)] [] (FX11_from x0 x1) := by
  unfold FX11_from
  refine s_iload_n dX11_from_0 rfl ?_
  refine s_iconst (v := 0) dX11_from_1 (by decide) ?_
  refine s_iconst (v := 1) dX11_from_2 (by decide) ?_
  refine s_staticI (as := [.int x1, .int (0 : Int32), .int (1 : Int32)]) (rest := []) dX11_from_3 sX11_83 (CX11_within _ _ _) (Nat.le_of_ble_eq_true rfl) ⟨Nat.le_refl _, Nat.le_refl _⟩ fun v1 => ?_
  refine s_if_ne (tgt := 16) dX11_from_6 (by decide) (fun c1 => ?_) (fun c1 => ?_)
  · refine s_aload_n dX11_from_9 rfl ?_
    refine s_bipush (v := -2) dX11_from_10 (by decide) ?_
    refine s_virtI (as := [.int (-2 : Int32)]) (rest := []) dX11_from_12 vX11_58 (CX11_counted _ _) (Nat.le_of_ble_eq_true rfl) ⟨Nat.le_refl _, Nat.le_refl _⟩ fun v2 => ?_
    exact s_ireturn dX11_from_15 rfl rfl
  · refine s_aload_n dX11_from_16 rfl ?_
    refine s_gR dX11_from_17 fX11_19 fun v3 => ?_
    refine s_iload_n dX11_from_20 rfl ?_
    refine s_aN (tgt := 32) (by decide) dX11_from_21 dX11_from_22 (by decide) ?_ (fun v4 => ?_)
    · refine s_aload_n dX11_from_25 rfl ?_
      refine s_bipush (v := -3) dX11_from_26 (by decide) ?_
      refine s_virtI (as := [.int (-3 : Int32)]) (rest := []) dX11_from_28 vX11_58 (CX11_counted _ _) (Nat.le_of_ble_eq_true rfl) ⟨Nat.le_refl _, Nat.le_refl _⟩ fun v5 => ?_
      exact s_ireturn dX11_from_31 rfl rfl
    · refine s_aload_n dX11_from_32 rfl ?_
      refine s_gR dX11_from_33 fX11_10 fun v6 => ?_
      refine s_aload_n dX11_from_36 rfl ?_
      refine s_gR dX11_from_37 fX11_19 fun v7 => ?_
      refine s_iload_n dX11_from_40 rfl ?_
      refine s_aR (by decide) dX11_from_41 fun v8 => ?_
      refine s_virtV (as := [.ref v8]) (rest := []) dX11_from_42 vX11_202 (CX2_become _ _) (Nat.le_of_ble_eq_true rfl) ⟨Nat.le_refl _, Nat.le_refl _⟩ fun v9 => ?_
      refine s_iconst (v := 1) dX11_from_45 (by decide) ?_
      exact s_ireturn dX11_from_46 rfl rfl
theorem CX11_from {l : Launch} {g : qG} {d : Nat} (x0 : Nat) (x1 : Int32) : qCt l g mX11_from (d + 3) 0 0 cvI [.ref x0, .int x1] (FX11_from x0 x1) := s_of pn_X11 (Nat.le_of_ble_eq_true rfl) fun n => FX11_from_ok x0 x1
def FX11_status (x0 : Nat) (x1 : Int32) : qP Int32 :=
if x1 = 0 then (
qb (gI 11 x0 7) fun v4 =>
qr v4) else (
if x1 = 1 then (
qb (gI 11 x0 8) fun v3 =>
qr v3) else (
if x1 = 2 then (
qb (gI 11 x0 9) fun v2 =>
qr v2) else (
qb (gI 11 x0 7) fun v1 =>
qb (pV 11 x0 7 (.int (v1 + (1 : Int32)))) fun _ =>
qr (-1 : Int32))))
set_option maxRecDepth 100000 in
set_option maxHeartbeats 4000000 in
theorem FX11_status_ok {l : Launch} {g : qG} {d n : Nat} (x0 : Nat) (x1 : Int32) : qS l g mX11_status d n 0 0 0 0 cvI 0 [(0, .ref x0), (1, .int x1)] [] (FX11_status x0 x1) := by
  unfold FX11_status
  refine s_iload_n dX11_status_0 rfl ?_
  refine s_case (fun c1 => ?_) (fun c1 => ?_)
  · refine s_tableIn (y := 0) (tgt := 28) dX11_status_1 c1 (by decide) (by decide) rfl (by decide) ?_
    refine s_aload_n dX11_status_28 rfl ?_
    refine s_gI dX11_status_29 fX11_44 fun v4 => ?_
    exact s_ireturn dX11_status_32 rfl rfl
  · refine s_case (fun c2 => ?_) (fun c2 => ?_)
    · refine s_tableIn (y := 1) (tgt := 33) dX11_status_1 c2 (by decide) (by decide) rfl (by decide) ?_
      refine s_aload_n dX11_status_33 rfl ?_
      refine s_gI dX11_status_34 fX11_48 fun v3 => ?_
      exact s_ireturn dX11_status_37 rfl rfl
    · refine s_case (fun c3 => ?_) (fun c3 => ?_)
      · refine s_tableIn (y := 2) (tgt := 38) dX11_status_1 c3 (by decide) (by decide) rfl (by decide) ?_
        refine s_aload_n dX11_status_38 rfl ?_
        refine s_gI dX11_status_39 fX11_51 fun v2 => ?_
        exact s_ireturn dX11_status_42 rfl rfl
      · refine s_tableOut (tgt := 43) dX11_status_1 (by
          have e : ¬ x1.toInt = 0 ∧ ¬ x1.toInt = 1 ∧ ¬ x1.toInt = 2 := ⟨lv_neT c1 (by decide), lv_neT c2 (by decide), lv_neT c3 (by decide)⟩
          omega) (by decide) ?_
        refine s_aload_n dX11_status_43 rfl ?_
        refine s_dup dX11_status_44 rfl ?_
        refine s_gI dX11_status_45 fX11_44 fun v1 => ?_
        refine s_iconst (v := 1) dX11_status_48 (by decide) ?_
        refine s_iadd dX11_status_49 ?_
        refine s_put dX11_status_50 fX11_44 rfl rfl ?_
        refine s_iconst (v := -1) dX11_status_53 (by decide) ?_
        exact s_ireturn dX11_status_54 rfl rfl
theorem CX11_status {l : Launch} {g : qG} {d : Nat} (x0 : Nat) (x1 : Int32) : qCt l g mX11_status d 0 0 cvI [.ref x0, .int x1] (FX11_status x0 x1) := s_of pn_X11 (Nat.le_of_ble_eq_true rfl) fun n => FX11_status_ok x0 x1
def FX11_amount (x0 : Nat) (x1 : Int32) : qP Int32 :=
if x1 = 0 then (
qb (gR 11 x0 0) fun v21 =>
qb (gI 2 v21 4) fun v22 =>
qr v22) else (
if x1 = 1 then (
qb (gR 11 x0 0) fun v19 =>
qb (gI 2 v19 5) fun v20 =>
qr v20) else (
if x1 = 2 then (
qb (gR 11 x0 0) fun v16 =>
qb (gR 2 v16 6) fun v17 =>
qb (aI v17 (9 : Int32)) fun v18 =>
qr v18) else (
if x1 = 3 then (
qb (gR 11 x0 0) fun v14 =>
qb (gI 2 v14 8) fun v15 =>
qr v15) else (
if x1 = 4 then (
qb (gR 11 x0 0) fun v11 =>
qb (gR 2 v11 9) fun v12 =>
qb (gI 0 v12 1) fun v13 =>
qr v13) else (
if x1 = 5 then (
qb (gR 11 x0 0) fun v7 =>
qb (gR 2 v7 10) fun v8 =>
qb (gR 8 v8 1) fun v9 =>
qb (aI v9 (0 : Int32)) fun v10 =>
qr v10) else (
if x1 = 6 then (
qb (gR 11 x0 0) fun v3 =>
qb (gR 2 v3 10) fun v4 =>
qb (gR 8 v4 1) fun v5 =>
qb (aI v5 (1 : Int32)) fun v6 =>
qr v6) else (
if x1 = 7 then (
qb (gR 11 x0 4) fun v1 =>
qb (gI 3 v1 1) fun v2 =>
qr v2) else (
qr (-2 : Int32)))))))))
set_option maxRecDepth 100000 in
set_option maxHeartbeats 4000000 in
theorem FX11_amount_ok {l : Launch} {g : qG} {d n : Nat} (x0 : Nat) (x1 : Int32) : qS l g mX11_amount d n 0 0 0 0 cvI 0 [(0, .ref x0), (1, .int x1)] [] (FX11_amount x0 x1) := by
  unfold FX11_amount
  refine s_iload_n dX11_amount_0 rfl ?_
  refine s_case (fun c1 => ?_) (fun c1 => ?_)
  · refine s_tableIn (y := 0) (tgt := 48) dX11_amount_1 c1 (by decide) (by decide) rfl (by decide) ?_
    refine s_aload_n dX11_amount_48 rfl ?_
    refine s_gR dX11_amount_49 fX11_10 fun v21 => ?_
    refine s_gI dX11_amount_52 fX11_220 fun v22 => ?_
    exact s_ireturn dX11_amount_55 rfl rfl
  · refine s_case (fun c2 => ?_) (fun c2 => ?_)
    · refine s_tableIn (y := 1) (tgt := 56) dX11_amount_1 c2 (by decide) (by decide) rfl (by decide) ?_
      refine s_aload_n dX11_amount_56 rfl ?_
      refine s_gR dX11_amount_57 fX11_10 fun v19 => ?_
      refine s_gI dX11_amount_60 fX11_223 fun v20 => ?_
      exact s_ireturn dX11_amount_63 rfl rfl
    · refine s_case (fun c3 => ?_) (fun c3 => ?_)
      · refine s_tableIn (y := 2) (tgt := 64) dX11_amount_1 c3 (by decide) (by decide) rfl (by decide) ?_
        refine s_aload_n dX11_amount_64 rfl ?_
        refine s_gR dX11_amount_65 fX11_10 fun v16 => ?_
        refine s_gR dX11_amount_68 fX11_76 fun v17 => ?_
        refine s_bipush (v := 9) dX11_amount_71 (by decide) ?_
        refine s_aI dX11_amount_73 fun v18 => ?_
        exact s_ireturn dX11_amount_74 rfl rfl
      · refine s_case (fun c4 => ?_) (fun c4 => ?_)
        · refine s_tableIn (y := 3) (tgt := 75) dX11_amount_1 c4 (by decide) (by decide) rfl (by decide) ?_
          refine s_aload_n dX11_amount_75 rfl ?_
          refine s_gR dX11_amount_76 fX11_10 fun v14 => ?_
          refine s_gI dX11_amount_79 fX11_226 fun v15 => ?_
          exact s_ireturn dX11_amount_82 rfl rfl
        · refine s_case (fun c5 => ?_) (fun c5 => ?_)
          · refine s_tableIn (y := 4) (tgt := 83) dX11_amount_1 c5 (by decide) (by decide) rfl (by decide) ?_
            refine s_aload_n dX11_amount_83 rfl ?_
            refine s_gR dX11_amount_84 fX11_10 fun v11 => ?_
            refine s_gR dX11_amount_87 fX11_133 fun v12 => ?_
            refine s_gI dX11_amount_90 fX11_229 fun v13 => ?_
            exact s_ireturn dX11_amount_93 rfl rfl
          · refine s_case (fun c6 => ?_) (fun c6 => ?_)
            · refine s_tableIn (y := 5) (tgt := 94) dX11_amount_1 c6 (by decide) (by decide) rfl (by decide) ?_
              refine s_aload_n dX11_amount_94 rfl ?_
              refine s_gR dX11_amount_95 fX11_10 fun v7 => ?_
              refine s_gR dX11_amount_98 fX11_169 fun v8 => ?_
              refine s_gR dX11_amount_101 fX11_232 fun v9 => ?_
              refine s_iconst (v := 0) dX11_amount_104 (by decide) ?_
              refine s_aI dX11_amount_105 fun v10 => ?_
              exact s_ireturn dX11_amount_106 rfl rfl
            · refine s_case (fun c7 => ?_) (fun c7 => ?_)
              · refine s_tableIn (y := 6) (tgt := 107) dX11_amount_1 c7 (by decide) (by decide) rfl (by decide) ?_
                refine s_aload_n dX11_amount_107 rfl ?_
                refine s_gR dX11_amount_108 fX11_10 fun v3 => ?_
                refine s_gR dX11_amount_111 fX11_169 fun v4 => ?_
                refine s_gR dX11_amount_114 fX11_232 fun v5 => ?_
                refine s_iconst (v := 1) dX11_amount_117 (by decide) ?_
                refine s_aI dX11_amount_118 fun v6 => ?_
                exact s_ireturn dX11_amount_119 rfl rfl
              · refine s_case (fun c8 => ?_) (fun c8 => ?_)
                · refine s_tableIn (y := 7) (tgt := 120) dX11_amount_1 c8 (by decide) (by decide) rfl (by decide) ?_
                  refine s_aload_n dX11_amount_120 rfl ?_
                  refine s_gR dX11_amount_121 fX11_33 fun v1 => ?_
                  refine s_gI dX11_amount_124 fX11_235 fun v2 => ?_
                  exact s_ireturn dX11_amount_127 rfl rfl
                · refine s_tableOut (tgt := 128) dX11_amount_1 (by
                    have e : ¬ x1.toInt = 0 ∧ ¬ x1.toInt = 1 ∧ ¬ x1.toInt = 2 ∧ ¬ x1.toInt = 3 ∧ ¬ x1.toInt = 4 ∧ ¬ x1.toInt = 5 ∧ ¬ x1.toInt = 6 ∧ ¬ x1.toInt = 7 := ⟨lv_neT c1 (by decide), lv_neT c2 (by decide), lv_neT c3 (by decide), lv_neT c4 (by decide), lv_neT c5 (by decide), lv_neT c6 (by decide), lv_neT c7 (by decide), lv_neT c8 (by decide)⟩
                    omega) (by decide) ?_
                  refine s_bipush (v := -2) dX11_amount_128 (by decide) ?_
                  exact s_ireturn dX11_amount_130 rfl rfl
theorem CX11_amount {l : Launch} {g : qG} {d : Nat} (x0 : Nat) (x1 : Int32) : qCt l g mX11_amount d 0 0 cvI [.ref x0, .int x1] (FX11_amount x0 x1) := s_of pn_X11 (Nat.le_of_ble_eq_true rfl) fun n => FX11_amount_ok x0 x1
def FX11_count (x0 : Nat) (x1 : Int32) : qP Int32 :=
qb (qcl 11 x0) fun _ => qb (FX11_amount x0 x1) fun v1 =>
qb (qcl 11 x0) fun _ => qb (FX11_counted x0 v1) fun v2 =>
qr v2
set_option maxRecDepth 100000 in
set_option maxHeartbeats 4000000 in
theorem FX11_count_ok {l : Launch} {g : qG} {d n : Nat} (x0 : Nat) (x1 : Int32) : qS l g mX11_count (d + 1) n 0 0 0 0 cvI 0 [(0, .ref x0), (1, .int x1)] [] (FX11_count x0 x1) := by
  unfold FX11_count
  refine s_aload_n dX11_count_0 rfl ?_
  refine s_aload_n dX11_count_1 rfl ?_
  refine s_iload_n dX11_count_2 rfl ?_
  refine s_virtI (as := [.int x1]) (rest := [.ref x0]) dX11_count_3 vX11_209 (CX11_amount _ _) (Nat.le_of_ble_eq_true rfl) ⟨Nat.le_refl _, Nat.le_refl _⟩ fun v1 => ?_
  refine s_virtI (as := [.int v1]) (rest := []) dX11_count_6 vX11_58 (CX11_counted _ _) (Nat.le_of_ble_eq_true rfl) ⟨Nat.le_refl _, Nat.le_refl _⟩ fun v2 => ?_
  exact s_ireturn dX11_count_9 rfl rfl
theorem CX11_count {l : Launch} {g : qG} {d : Nat} (x0 : Nat) (x1 : Int32) : qCt l g mX11_count (d + 1) 0 0 cvI [.ref x0, .int x1] (FX11_count x0 x1) := s_of pn_X11 (Nat.le_of_ble_eq_true rfl) fun n => FX11_count_ok x0 x1
def UX11_digest_6 (R : Nat → Int64 → Int32 → qP Int64) (K31 : Nat → Int64 → qP Int64) (x0 : Nat) (x1 : Int64) (x3 : Int32) : qP Int64 :=
if (7 : Int32) < x3 then (
K31 x0 x1) else (
qb (qcl 11 x0) fun _ => qb (FX11_amount x0 x3) fun v1 =>
R x0 (((31 : Int64) * x1) + (v1).toInt64) (x3 + 1))
set_option maxRecDepth 100000 in
set_option maxHeartbeats 4000000 in
theorem UX11_digest_6_ok {l : Launch} {g : qG} {d n : Nat} {R : Nat → Int64 → Int32 → qP Int64} (hR : ∀ (x0 : Nat) (x1 : Int64) (x3 : Int32), qS l g mX11_digest (d + 2) n 0 0 0 0 cvL 6 [(0, .ref x0), (1, .long x1), (3, .int x3)] [] (R x0 x1 x3)) {K31 : Nat → Int64 → qP Int64} (hK31 : ∀ (x0 : Nat) (x1 : Int64), qS l g mX11_digest (d + 2) n 0 0 0 0 cvL 31 [(0, .ref x0), (1, .long x1)] [] (K31 x0 x1)) (x0 : Nat) (x1 : Int64) (x3 : Int32) : qS l g mX11_digest (d + 2) n 0 0 0 0 cvL 6 [(0, .ref x0), (1, .long x1), (3, .int x3)] [] (UX11_digest_6 R K31 x0 x1 x3) := by
  unfold UX11_digest_6
  refine s_iload_n dX11_digest_6 rfl ?_
  refine s_bipush (v := 7) dX11_digest_7 (by decide) ?_
  refine s_icmp_gt (tgt := 31) dX11_digest_9 (by decide) (fun c1 => ?_) (fun c1 => ?_)
  · refine s_locals [0, 1] rfl ?_
    exact hK31 x0 x1
  · refine s_ldc2 dX11_digest_12 lX11_214 ?_
    refine s_lload_n dX11_digest_15 rfl ?_
    refine s_lmul dX11_digest_16 ?_
    refine s_aload_n dX11_digest_17 rfl ?_
    refine s_iload_n dX11_digest_18 rfl ?_
    refine s_virtI (as := [.int x3]) (rest := [.long ((31 : Int64) * x1)]) dX11_digest_19 vX11_209 (CX11_amount _ _) (Nat.le_of_ble_eq_true rfl) ⟨Nat.le_refl _, Nat.le_refl _⟩ fun v1 => ?_
    refine s_i2l dX11_digest_22 ?_
    refine s_ladd dX11_digest_23 ?_
    refine s_lstore_n (lv' := [(1, .long (((31 : Int64) * x1) + (v1).toInt64)), (0, .ref x0), (3, .int x3)]) dX11_digest_24 (by decide) rfl ?_
    refine s_iinc (lv' := [(3, .int (x3 + 1)), (1, .long (((31 : Int64) * x1) + (v1).toInt64)), (0, .ref x0)]) dX11_digest_25 rfl (by decide) rfl ?_
    refine s_goto (tgt := 6) dX11_digest_28 (by decide) ?_
    refine s_locals [2, 1, 0] rfl ?_
    exact hR x0 (((31 : Int64) * x1) + (v1).toInt64) (x3 + 1)
def WX11_digest_6 (K31 : Nat → Int64 → qP Int64) : Nat → Nat → Int64 → Int32 → qP Int64
  | 0 => fun _ _ _ => qfail
  | N + 1 => fun x0 x1 x3 => UX11_digest_6 (WX11_digest_6 K31 N) K31 x0 x1 x3
theorem WX11_digest_6_ok {l : Launch} {g : qG} {d n : Nat} {K31 : Nat → Int64 → qP Int64} (hK31 : ∀ (x0 : Nat) (x1 : Int64), qS l g mX11_digest (d + 2) n 0 0 0 0 cvL 31 [(0, .ref x0), (1, .long x1)] [] (K31 x0 x1)) : ∀ (N : Nat) (x0 : Nat) (x1 : Int64) (x3 : Int32), qS l g mX11_digest (d + 2) n 0 0 0 0 cvL 6 [(0, .ref x0), (1, .long x1), (3, .int x3)] [] (WX11_digest_6 K31 N x0 x1 x3) := by
  intro N
  induction N with
  | zero => intro x0 x1 x3; exact s_fail
  | succ N ih => intro x0 x1 x3; exact UX11_digest_6_ok ih hK31 x0 x1 x3
def UX11_digest_31 (x0 : Nat) (x1 : Int64) : qP Int64 :=
qb (gR 11 x0 0) fun v1 =>
qb (qcl 2 v1) fun _ => qb (FX2_mixed v1 x1) fun v2 =>
qb (gL 11 x0 5) fun v3 =>
qb (gL 11 x0 6) fun v4 =>
qr (((31 : Int64) * (((31 : Int64) * v2) + v3)) + v4)
set_option maxRecDepth 100000 in
set_option maxHeartbeats 4000000 in
theorem UX11_digest_31_ok {l : Launch} {g : qG} {d n : Nat} (x0 : Nat) (x1 : Int64) : qS l g mX11_digest (d + 2) n 0 0 0 0 cvL 31 [(0, .ref x0), (1, .long x1)] [] (UX11_digest_31 x0 x1) := by
  unfold UX11_digest_31
  refine s_aload_n dX11_digest_31 rfl ?_
  refine s_gR dX11_digest_32 fX11_10 fun v1 => ?_
  refine s_lload_n dX11_digest_35 rfl ?_
  refine s_virtL (as := [.long x1]) (rest := []) dX11_digest_36 vX11_216 (CX2_mixed _ _) (Nat.le_of_ble_eq_true rfl) ⟨Nat.le_refl _, Nat.le_refl _⟩ fun v2 => ?_
  refine s_lstore_n (lv' := [(1, .long v2), (0, .ref x0)]) dX11_digest_39 (by decide) rfl ?_
  refine s_ldc2 dX11_digest_40 lX11_214 ?_
  refine s_lload_n dX11_digest_43 rfl ?_
  refine s_lmul dX11_digest_44 ?_
  refine s_aload_n dX11_digest_45 rfl ?_
  refine s_gL dX11_digest_46 fX11_37 fun v3 => ?_
  refine s_ladd dX11_digest_49 ?_
  refine s_lstore_n (lv' := [(1, .long (((31 : Int64) * v2) + v3)), (0, .ref x0)]) dX11_digest_50 (by decide) rfl ?_
  refine s_ldc2 dX11_digest_51 lX11_214 ?_
  refine s_lload_n dX11_digest_54 rfl ?_
  refine s_lmul dX11_digest_55 ?_
  refine s_aload_n dX11_digest_56 rfl ?_
  refine s_gL dX11_digest_57 fX11_41 fun v4 => ?_
  refine s_ladd dX11_digest_60 ?_
  exact s_lreturn dX11_digest_61 rfl
def FX11_digest (x0 : Nat) : qP Int64 :=
WX11_digest_6 (UX11_digest_31) 1000000 x0 (821 : Int64) (0 : Int32)
set_option maxRecDepth 100000 in
set_option maxHeartbeats 4000000 in
theorem FX11_digest_ok {l : Launch} {g : qG} {d n : Nat} (x0 : Nat) : qS l g mX11_digest (d + 2) n 0 0 0 0 cvL 0 [(0, .ref x0)] [] (FX11_digest x0) := by
  unfold FX11_digest
  refine s_ldc2 dX11_digest_0 lX11_212 ?_
  refine s_lstore_n (lv' := [(1, .long (821 : Int64)), (0, .ref x0)]) dX11_digest_3 (by decide) rfl ?_
  refine s_iconst (v := 0) dX11_digest_4 (by decide) ?_
  refine s_istore_n (lv' := [(3, .int (0 : Int32)), (1, .long (821 : Int64)), (0, .ref x0)]) dX11_digest_5 (by decide) rfl ?_
  refine s_locals [2, 1, 0] rfl ?_
  exact WX11_digest_6_ok (UX11_digest_31_ok) 1000000 x0 (821 : Int64) (0 : Int32)
theorem CX11_digest {l : Launch} {g : qG} {d : Nat} (x0 : Nat) : qCt l g mX11_digest (d + 2) 0 0 cvL [.ref x0] (FX11_digest x0) := s_of pn_X11 (Nat.le_of_ble_eq_true rfl) fun n => FX11_digest_ok x0

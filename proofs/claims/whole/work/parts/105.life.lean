def FX2_empty (x0 : Nat) : qP Unit :=
qb (gR 2 x0 6) fun v1 =>
qb (FJ7_fill_53178 v1 (0 : Int32)) fun v2 =>
qb (pV 2 x0 4 (.int (0 : Int32))) fun _ =>
qb (pV 2 x0 5 (.int (0 : Int32))) fun _ =>
qb (pV 2 x0 8 (.int (0 : Int32))) fun _ =>
qb (gR 2 x0 9) fun v3 =>
qb (qcl 0 v3) fun _ => qb (FX0_empty v3) fun v4 =>
qb (gR 2 x0 10) fun v5 =>
qb (qcl 8 v5) fun _ => qb (FX8_forget v5) fun v6 =>
qr ()
set_option maxRecDepth 100000 in
set_option maxHeartbeats 4000000 in
theorem FX2_empty_ok {l : Launch} {g : qG} {d n : Nat} (x0 : Nat) : qS l g mX2_empty (d + 2) n 0 0 0 0 cvV 0 [(0, .ref x0)] [] (FX2_empty x0) := by
  unfold FX2_empty
  refine s_aload_n dX2_empty_0 rfl ?_
  refine s_gR dX2_empty_1 fX2_50 fun v1 => ?_
  refine s_iconst (v := 0) dX2_empty_4 (by decide) ?_
  refine s_staticV (as := [.ref v1, .int (0 : Int32)]) (rest := []) dX2_empty_5 sX2_73 (CJ7_fill_53178 _ _) (Nat.le_of_ble_eq_true rfl) ⟨Nat.le_refl _, Nat.le_refl _⟩ fun v2 => ?_
  refine s_aload_n dX2_empty_8 rfl ?_
  refine s_iconst (v := 0) dX2_empty_9 (by decide) ?_
  refine s_put dX2_empty_10 fX2_43 rfl rfl ?_
  refine s_aload_n dX2_empty_13 rfl ?_
  refine s_iconst (v := 0) dX2_empty_14 (by decide) ?_
  refine s_put dX2_empty_15 fX2_47 rfl rfl ?_
  refine s_aload_n dX2_empty_18 rfl ?_
  refine s_iconst (v := 0) dX2_empty_19 (by decide) ?_
  refine s_put dX2_empty_20 fX2_56 rfl rfl ?_
  refine s_aload_n dX2_empty_23 rfl ?_
  refine s_gR dX2_empty_24 fX2_62 fun v3 => ?_
  refine s_virtV (as := []) (rest := []) dX2_empty_27 vX2_79 (CX0_empty _) (Nat.le_of_ble_eq_true rfl) ⟨Nat.le_refl _, Nat.le_refl _⟩ fun v4 => ?_
  refine s_aload_n dX2_empty_30 rfl ?_
  refine s_gR dX2_empty_31 fX2_69 fun v5 => ?_
  refine s_virtI (as := []) (rest := []) dX2_empty_34 vX2_82 (CX8_forget _) (Nat.le_of_ble_eq_true rfl) ⟨Nat.le_refl _, Nat.le_refl _⟩ fun v6 => ?_
  refine s_pop dX2_empty_37 rfl ?_
  exact s_return dX2_empty_38 rfl
theorem CX2_empty {l : Launch} {g : qG} {d : Nat} (x0 : Nat) : qCt l g mX2_empty (d + 2) 0 0 cvV [.ref x0] (FX2_empty x0) := s_of pn_X2 (Nat.le_of_ble_eq_true rfl) fun n => FX2_empty_ok x0
def FX2_become (x0 : Nat) (x1 : Nat) : qP Unit :=
qb (gR 2 x1 1) fun v1 =>
qb (gR 2 x0 1) fun v2 =>
qb (cp v1 (0 : Int32) v2 (0 : Int32) (3 : Int32)) fun _ =>
qb (gR 2 x1 2) fun v3 =>
qb (gR 2 x0 2) fun v4 =>
qb (cp v3 (0 : Int32) v4 (0 : Int32) (3 : Int32)) fun _ =>
qb (gR 2 x1 3) fun v5 =>
qb (gR 2 x0 3) fun v6 =>
qb (cp v5 (0 : Int32) v6 (0 : Int32) (7 : Int32)) fun _ =>
qb (gI 2 x1 4) fun v7 =>
qb (pV 2 x0 4 (.int v7)) fun _ =>
qb (gI 2 x1 5) fun v8 =>
qb (pV 2 x0 5 (.int v8)) fun _ =>
qb (gR 2 x1 6) fun v9 =>
qb (gR 2 x0 6) fun v10 =>
qb (cp v9 (0 : Int32) v10 (0 : Int32) (10 : Int32)) fun _ =>
qb (gR 2 x1 7) fun v11 =>
qb (gR 2 x0 7) fun v12 =>
qb (cp v11 (0 : Int32) v12 (0 : Int32) (120 : Int32)) fun _ =>
qb (gI 2 x1 8) fun v13 =>
qb (pV 2 x0 8 (.int v13)) fun _ =>
qb (gR 2 x0 9) fun v14 =>
qb (gR 2 x1 9) fun v15 =>
qb (qcl 0 v14) fun _ => qb (FX0_become v14 v15) fun v16 =>
qb (gR 2 x0 10) fun v17 =>
qb (gR 2 x1 10) fun v18 =>
qb (qcl 8 v17) fun _ => qb (FX8_become v17 v18) fun v19 =>
qr ()
set_option maxRecDepth 100000 in
set_option maxHeartbeats 4000000 in
theorem FX2_become_ok {l : Launch} {g : qG} {d n : Nat} (x0 : Nat) (x1 : Nat) : qS l g mX2_become (d + 2) n 0 0 0 0 cvV 0 [(0, .ref x0), (1, .ref x1)] [] (FX2_become x0 x1) := by
  unfold FX2_become
  refine s_aload_n dX2_become_0 rfl ?_
  refine s_gR dX2_become_1 fX2_33 fun v1 => ?_
  refine s_iconst (v := 0) dX2_become_4 (by decide) ?_
  refine s_aload_n dX2_become_5 rfl ?_
  refine s_gR dX2_become_6 fX2_33 fun v2 => ?_
  refine s_iconst (v := 0) dX2_become_9 (by decide) ?_
  refine s_iconst (v := 3) dX2_become_10 (by decide) ?_
  refine s_copy dX2_become_11 aX2_86 kw_an kw_as kw_ai (Nat.le_of_ble_eq_true rfl) ?_
  refine s_aload_n dX2_become_14 rfl ?_
  refine s_gR dX2_become_15 fX2_37 fun v3 => ?_
  refine s_iconst (v := 0) dX2_become_18 (by decide) ?_
  refine s_aload_n dX2_become_19 rfl ?_
  refine s_gR dX2_become_20 fX2_37 fun v4 => ?_
  refine s_iconst (v := 0) dX2_become_23 (by decide) ?_
  refine s_iconst (v := 3) dX2_become_24 (by decide) ?_
  refine s_copy dX2_become_25 aX2_86 kw_an kw_as kw_ai (Nat.le_of_ble_eq_true rfl) ?_
  refine s_aload_n dX2_become_28 rfl ?_
  refine s_gR dX2_become_29 fX2_40 fun v5 => ?_
  refine s_iconst (v := 0) dX2_become_32 (by decide) ?_
  refine s_aload_n dX2_become_33 rfl ?_
  refine s_gR dX2_become_34 fX2_40 fun v6 => ?_
  refine s_iconst (v := 0) dX2_become_37 (by decide) ?_
  refine s_bipush (v := 7) dX2_become_38 (by decide) ?_
  refine s_copy dX2_become_40 aX2_86 kw_an kw_as kw_ai (Nat.le_of_ble_eq_true rfl) ?_
  refine s_aload_n dX2_become_43 rfl ?_
  refine s_aload_n dX2_become_44 rfl ?_
  refine s_gI dX2_become_45 fX2_43 fun v7 => ?_
  refine s_put dX2_become_48 fX2_43 rfl rfl ?_
  refine s_aload_n dX2_become_51 rfl ?_
  refine s_aload_n dX2_become_52 rfl ?_
  refine s_gI dX2_become_53 fX2_47 fun v8 => ?_
  refine s_put dX2_become_56 fX2_47 rfl rfl ?_
  refine s_aload_n dX2_become_59 rfl ?_
  refine s_gR dX2_become_60 fX2_50 fun v9 => ?_
  refine s_iconst (v := 0) dX2_become_63 (by decide) ?_
  refine s_aload_n dX2_become_64 rfl ?_
  refine s_gR dX2_become_65 fX2_50 fun v10 => ?_
  refine s_iconst (v := 0) dX2_become_68 (by decide) ?_
  refine s_bipush (v := 10) dX2_become_69 (by decide) ?_
  refine s_copy dX2_become_71 aX2_86 kw_an kw_as kw_ai (Nat.le_of_ble_eq_true rfl) ?_
  refine s_aload_n dX2_become_74 rfl ?_
  refine s_gR dX2_become_75 fX2_53 fun v11 => ?_
  refine s_iconst (v := 0) dX2_become_78 (by decide) ?_
  refine s_aload_n dX2_become_79 rfl ?_
  refine s_gR dX2_become_80 fX2_53 fun v12 => ?_
  refine s_iconst (v := 0) dX2_become_83 (by decide) ?_
  refine s_bipush (v := 120) dX2_become_84 (by decide) ?_
  refine s_copy dX2_become_86 aX2_86 kw_an kw_as kw_ai (Nat.le_of_ble_eq_true rfl) ?_
  refine s_aload_n dX2_become_89 rfl ?_
  refine s_aload_n dX2_become_90 rfl ?_
  refine s_gI dX2_become_91 fX2_56 fun v13 => ?_
  refine s_put dX2_become_94 fX2_56 rfl rfl ?_
  refine s_aload_n dX2_become_97 rfl ?_
  refine s_gR dX2_become_98 fX2_62 fun v14 => ?_
  refine s_aload_n dX2_become_101 rfl ?_
  refine s_gR dX2_become_102 fX2_62 fun v15 => ?_
  refine s_virtV (as := [.ref v15]) (rest := []) dX2_become_105 vX2_92 (CX0_become _ _) (Nat.le_of_ble_eq_true rfl) ⟨Nat.le_refl _, Nat.le_refl _⟩ fun v16 => ?_
  refine s_aload_n dX2_become_108 rfl ?_
  refine s_gR dX2_become_109 fX2_69 fun v17 => ?_
  refine s_aload_n dX2_become_112 rfl ?_
  refine s_gR dX2_become_113 fX2_69 fun v18 => ?_
  refine s_virtV (as := [.ref v18]) (rest := []) dX2_become_116 vX2_96 (CX8_become _ _) (Nat.le_of_ble_eq_true rfl) ⟨Nat.le_refl _, Nat.le_refl _⟩ fun v19 => ?_
  exact s_return dX2_become_119 rfl
theorem CX2_become {l : Launch} {g : qG} {d : Nat} (x0 : Nat) (x1 : Nat) : qCt l g mX2_become (d + 2) 0 0 cvV [.ref x0, .ref x1] (FX2_become x0 x1) := s_of pn_X2 (Nat.le_of_ble_eq_true rfl) fun n => FX2_become_ok x0 x1
def FX2_hasPlot (x0 : Nat) (x1 : Int32) : qP Int32 :=
if x1 < 0 then (
qr (0 : Int32)) else (
qb (gI 2 x0 4) fun v1 =>
if v1 ≤ x1 then (
qr (0 : Int32)) else (
qr (1 : Int32)))
set_option maxRecDepth 100000 in
set_option maxHeartbeats 4000000 in
theorem FX2_hasPlot_ok {l : Launch} {g : qG} {d n : Nat} (x0 : Nat) (x1 : Int32) : qS l g mX2_hasPlot d n 0 0 0 0 cvI 0 [(0, .ref x0), (1, .int x1)] [] (FX2_hasPlot x0 x1) := by
  unfold FX2_hasPlot
  refine s_iload_n dX2_hasPlot_0 rfl ?_
  refine s_if_lt (tgt := 16) dX2_hasPlot_1 (by decide) (fun c1 => ?_) (fun c1 => ?_)
  · refine s_iconst (v := 0) dX2_hasPlot_16 (by decide) ?_
    exact s_ireturn dX2_hasPlot_17 rfl (by decide)
  · refine s_iload_n dX2_hasPlot_4 rfl ?_
    refine s_aload_n dX2_hasPlot_5 rfl ?_
    refine s_gI dX2_hasPlot_6 fX2_43 fun v1 => ?_
    refine s_icmp_ge (tgt := 16) dX2_hasPlot_9 (by decide) (fun c2 => ?_) (fun c2 => ?_)
    · refine s_iconst (v := 0) dX2_hasPlot_16 (by decide) ?_
      exact s_ireturn dX2_hasPlot_17 rfl (by decide)
    · refine s_iconst (v := 1) dX2_hasPlot_12 (by decide) ?_
      refine s_goto (tgt := 17) dX2_hasPlot_13 (by decide) ?_
      exact s_ireturn dX2_hasPlot_17 rfl (by decide)
theorem CX2_hasPlot {l : Launch} {g : qG} {d : Nat} (x0 : Nat) (x1 : Int32) : qCt l g mX2_hasPlot d 0 0 cvI [.ref x0, .int x1] (FX2_hasPlot x0 x1) := s_of pn_X2 (Nat.le_of_ble_eq_true rfl) fun n => FX2_hasPlot_ok x0 x1
def FX2_hasShirt (x0 : Nat) (x1 : Int32) : qP Int32 :=
if x1 < 0 then (
qr (0 : Int32)) else (
qb (gI 2 x0 5) fun v1 =>
if v1 ≤ x1 then (
qr (0 : Int32)) else (
qr (1 : Int32)))
set_option maxRecDepth 100000 in
set_option maxHeartbeats 4000000 in
theorem FX2_hasShirt_ok {l : Launch} {g : qG} {d n : Nat} (x0 : Nat) (x1 : Int32) : qS l g mX2_hasShirt d n 0 0 0 0 cvI 0 [(0, .ref x0), (1, .int x1)] [] (FX2_hasShirt x0 x1) := by
  unfold FX2_hasShirt
  refine s_iload_n dX2_hasShirt_0 rfl ?_
  refine s_if_lt (tgt := 16) dX2_hasShirt_1 (by decide) (fun c1 => ?_) (fun c1 => ?_)
  · refine s_iconst (v := 0) dX2_hasShirt_16 (by decide) ?_
    exact s_ireturn dX2_hasShirt_17 rfl (by decide)
  · refine s_iload_n dX2_hasShirt_4 rfl ?_
    refine s_aload_n dX2_hasShirt_5 rfl ?_
    refine s_gI dX2_hasShirt_6 fX2_47 fun v1 => ?_
    refine s_icmp_ge (tgt := 16) dX2_hasShirt_9 (by decide) (fun c2 => ?_) (fun c2 => ?_)
    · refine s_iconst (v := 0) dX2_hasShirt_16 (by decide) ?_
      exact s_ireturn dX2_hasShirt_17 rfl (by decide)
    · refine s_iconst (v := 1) dX2_hasShirt_12 (by decide) ?_
      refine s_goto (tgt := 17) dX2_hasShirt_13 (by decide) ?_
      exact s_ireturn dX2_hasShirt_17 rfl (by decide)
theorem CX2_hasShirt {l : Launch} {g : qG} {d : Nat} (x0 : Nat) (x1 : Int32) : qCt l g mX2_hasShirt d 0 0 cvI [.ref x0, .int x1] (FX2_hasShirt x0 x1) := s_of pn_X2 (Nat.le_of_ble_eq_true rfl) fun n => FX2_hasShirt_ok x0 x1
def FX2_areShirts (x0 : Nat) (x1 : Int32) : qP Int32 :=
if x1 < 0 then (
qr (0 : Int32)) else (
qb (gI 2 x0 5) fun v1 =>
if ((1 : Int32) <<< (v1 &&& 31)) ≤ x1 then (
qr (0 : Int32)) else (
qr (1 : Int32)))
set_option maxRecDepth 100000 in
set_option maxHeartbeats 4000000 in
theorem FX2_areShirts_ok {l : Launch} {g : qG} {d n : Nat} (x0 : Nat) (x1 : Int32) : qS l g mX2_areShirts d n 0 0 0 0 cvI 0 [(0, .ref x0), (1, .int x1)] [] (FX2_areShirts x0 x1) := by
  unfold FX2_areShirts
  refine s_iload_n dX2_areShirts_0 rfl ?_
  refine s_if_lt (tgt := 18) dX2_areShirts_1 (by decide) (fun c1 => ?_) (fun c1 => ?_)
  · refine s_iconst (v := 0) dX2_areShirts_18 (by decide) ?_
    exact s_ireturn dX2_areShirts_19 rfl (by decide)
  · refine s_iload_n dX2_areShirts_4 rfl ?_
    refine s_iconst (v := 1) dX2_areShirts_5 (by decide) ?_
    refine s_aload_n dX2_areShirts_6 rfl ?_
    refine s_gI dX2_areShirts_7 fX2_47 fun v1 => ?_
    refine s_ishl dX2_areShirts_10 ?_
    refine s_icmp_ge (tgt := 18) dX2_areShirts_11 (by decide) (fun c2 => ?_) (fun c2 => ?_)
    · refine s_iconst (v := 0) dX2_areShirts_18 (by decide) ?_
      exact s_ireturn dX2_areShirts_19 rfl (by decide)
    · refine s_iconst (v := 1) dX2_areShirts_14 (by decide) ?_
      refine s_goto (tgt := 19) dX2_areShirts_15 (by decide) ?_
      exact s_ireturn dX2_areShirts_19 rfl (by decide)
theorem CX2_areShirts {l : Launch} {g : qG} {d : Nat} (x0 : Nat) (x1 : Int32) : qCt l g mX2_areShirts d 0 0 cvI [.ref x0, .int x1] (FX2_areShirts x0 x1) := s_of pn_X2 (Nat.le_of_ble_eq_true rfl) fun n => FX2_areShirts_ok x0 x1
def FX2_isSewing (x0 : Nat) (x1 : Int32) : qP Int32 :=
if x1 < (3 : Int32) then (
qr (0 : Int32)) else (
qb (gI 2 x0 5) fun v1 =>
if ((3 : Int32) + v1) ≤ x1 then (
qr (0 : Int32)) else (
qr (1 : Int32)))
set_option maxRecDepth 100000 in
set_option maxHeartbeats 4000000 in
theorem FX2_isSewing_ok {l : Launch} {g : qG} {d n : Nat} (x0 : Nat) (x1 : Int32) : qS l g mX2_isSewing d n 0 0 0 0 cvI 0 [(0, .ref x0), (1, .int x1)] [] (FX2_isSewing x0 x1) := by
  unfold FX2_isSewing
  refine s_iload_n dX2_isSewing_0 rfl ?_
  refine s_iconst (v := 3) dX2_isSewing_1 (by decide) ?_
  refine s_icmp_lt (tgt := 19) dX2_isSewing_2 (by decide) (fun c1 => ?_) (fun c1 => ?_)
  · refine s_iconst (v := 0) dX2_isSewing_19 (by decide) ?_
    exact s_ireturn dX2_isSewing_20 rfl (by decide)
  · refine s_iload_n dX2_isSewing_5 rfl ?_
    refine s_iconst (v := 3) dX2_isSewing_6 (by decide) ?_
    refine s_aload_n dX2_isSewing_7 rfl ?_
    refine s_gI dX2_isSewing_8 fX2_47 fun v1 => ?_
    refine s_iadd dX2_isSewing_11 ?_
    refine s_icmp_ge (tgt := 19) dX2_isSewing_12 (by decide) (fun c2 => ?_) (fun c2 => ?_)
    · refine s_iconst (v := 0) dX2_isSewing_19 (by decide) ?_
      exact s_ireturn dX2_isSewing_20 rfl (by decide)
    · refine s_iconst (v := 1) dX2_isSewing_15 (by decide) ?_
      refine s_goto (tgt := 20) dX2_isSewing_16 (by decide) ?_
      exact s_ireturn dX2_isSewing_20 rfl (by decide)
theorem CX2_isSewing {l : Launch} {g : qG} {d : Nat} (x0 : Nat) (x1 : Int32) : qCt l g mX2_isSewing d 0 0 cvI [.ref x0, .int x1] (FX2_isSewing x0 x1) := s_of pn_X2 (Nat.le_of_ble_eq_true rfl) fun n => FX2_isSewing_ok x0 x1
def FX2_hasNight (x0 : Nat) (x1 : Int32) : qP Int32 :=
if x1 = (7 : Int32) then (
qr (1 : Int32)) else (
qb (qcl 2 x0) fun _ => qb (FX2_hasPlot x0 x1) fun v1 =>
if v1 = 0 then (
qb (qcl 2 x0) fun _ => qb (FX2_isSewing x0 x1) fun v2 =>
if v2 = 0 then (
qr (0 : Int32)) else (
qr (1 : Int32))) else (
qr (1 : Int32)))
set_option maxRecDepth 100000 in
set_option maxHeartbeats 4000000 in
theorem FX2_hasNight_ok {l : Launch} {g : qG} {d n : Nat} (x0 : Nat) (x1 : Int32) : qS l g mX2_hasNight (d + 1) n 0 0 0 0 cvI 0 [(0, .ref x0), (1, .int x1)] [] (FX2_hasNight x0 x1) := by
  unfold FX2_hasNight
  refine s_iload_n dX2_hasNight_0 rfl ?_
  refine s_bipush (v := 7) dX2_hasNight_1 (by decide) ?_
  refine s_icmp_eq (tgt := 22) dX2_hasNight_3 (by decide) (fun c1 => ?_) (fun c1 => ?_)
  · refine s_iconst (v := 1) dX2_hasNight_22 (by decide) ?_
    refine s_goto (tgt := 27) dX2_hasNight_23 (by decide) ?_
    exact s_ireturn dX2_hasNight_27 rfl (by decide)
  · refine s_aload_n dX2_hasNight_6 rfl ?_
    refine s_iload_n dX2_hasNight_7 rfl ?_
    refine s_virtI (as := [.int x1]) (rest := []) dX2_hasNight_8 vX2_99 (CX2_hasPlot _ _) (Nat.le_of_ble_eq_true rfl) ⟨Nat.le_refl _, Nat.le_refl _⟩ fun v1 => ?_
    refine s_if_ne (tgt := 22) dX2_hasNight_11 (by decide) (fun c2 => ?_) (fun c2 => ?_)
    · refine s_aload_n dX2_hasNight_14 rfl ?_
      refine s_iload_n dX2_hasNight_15 rfl ?_
      refine s_virtI (as := [.int x1]) (rest := []) dX2_hasNight_16 vX2_103 (CX2_isSewing _ _) (Nat.le_of_ble_eq_true rfl) ⟨Nat.le_refl _, Nat.le_refl _⟩ fun v2 => ?_
      refine s_if_eq (tgt := 26) dX2_hasNight_19 (by decide) (fun c3 => ?_) (fun c3 => ?_)
      · refine s_iconst (v := 0) dX2_hasNight_26 (by decide) ?_
        exact s_ireturn dX2_hasNight_27 rfl (by decide)
      · refine s_iconst (v := 1) dX2_hasNight_22 (by decide) ?_
        refine s_goto (tgt := 27) dX2_hasNight_23 (by decide) ?_
        exact s_ireturn dX2_hasNight_27 rfl (by decide)
    · refine s_iconst (v := 1) dX2_hasNight_22 (by decide) ?_
      refine s_goto (tgt := 27) dX2_hasNight_23 (by decide) ?_
      exact s_ireturn dX2_hasNight_27 rfl (by decide)
theorem CX2_hasNight {l : Launch} {g : qG} {d : Nat} (x0 : Nat) (x1 : Int32) : qCt l g mX2_hasNight (d + 1) 0 0 cvI [.ref x0, .int x1] (FX2_hasNight x0 x1) := s_of pn_X2 (Nat.le_of_ble_eq_true rfl) fun n => FX2_hasNight_ok x0 x1
def FX2_addPlot (x0 : Nat) (x1 : Int32) (x2 : Int32) : qP Int32 :=
if x1 < 0 then (
qr (-2 : Int32)) else (
qb (gR 2 x0 0) fun v1 =>
qb (aL v1) fun v2 =>
if v2 ≤ x1 then (
qr (-2 : Int32)) else (
if x2 < 0 then (
qr (-2 : Int32)) else (
if x2 ≤ (20 : Int32) then (
qb (gI 2 x0 4) fun v3 =>
if v3 < (3 : Int32) then (
qb (gR 2 x0 1) fun v4 =>
qb (gI 2 x0 4) fun v5 =>
qb (sI v4 v5 x1) fun _ =>
qb (gR 2 x0 2) fun v6 =>
qb (gI 2 x0 4) fun v7 =>
qb (sI v6 v7 (0 : Int32)) fun _ =>
qb (gR 2 x0 3) fun v8 =>
qb (gI 2 x0 4) fun v9 =>
qb (sI v8 v9 x2) fun _ =>
qb (gR 2 x0 6) fun v10 =>
qb (gI 2 x0 4) fun v11 =>
qb (sI v10 v11 x2) fun _ =>
qb (pV 2 x0 8 (.int (0 : Int32))) fun _ =>
qb (gI 2 x0 4) fun v12 =>
qb (pV 2 x0 4 (.int (v12 + (1 : Int32)))) fun _ =>
qr v12) else (
qr (-4 : Int32))) else (
qr (-2 : Int32)))))
set_option maxRecDepth 100000 in
set_option maxHeartbeats 4000000 in
theorem FX2_addPlot_ok {l : Launch} {g : qG} {d n : Nat} (x0 : Nat) (x1 : Int32) (x2 : Int32) : qS l g mX2_addPlot d n 0 0 0 0 cvI 0 [(0, .ref x0), (1, .int x1), (2, .int x2)] [] (FX2_addPlot x0 x1 x2) := by
  unfold FX2_addPlot
  refine s_iload_n dX2_addPlot_0 rfl ?_
  refine s_if_lt (tgt := 23) dX2_addPlot_1 (by decide) (fun c1 => ?_) (fun c1 => ?_)
  · refine s_bipush (v := -2) dX2_addPlot_23 (by decide) ?_
    exact s_ireturn dX2_addPlot_25 rfl rfl
  · refine s_iload_n dX2_addPlot_4 rfl ?_
    refine s_aload_n dX2_addPlot_5 rfl ?_
    refine s_gR dX2_addPlot_6 fX2_27 fun v1 => ?_
    refine s_aL dX2_addPlot_9 fun v2 => ?_
    refine s_icmp_ge (tgt := 23) dX2_addPlot_10 (by decide) (fun c2 => ?_) (fun c2 => ?_)
    · refine s_bipush (v := -2) dX2_addPlot_23 (by decide) ?_
      exact s_ireturn dX2_addPlot_25 rfl rfl
    · refine s_iload_n dX2_addPlot_13 rfl ?_
      refine s_if_lt (tgt := 23) dX2_addPlot_14 (by decide) (fun c3 => ?_) (fun c3 => ?_)
      · refine s_bipush (v := -2) dX2_addPlot_23 (by decide) ?_
        exact s_ireturn dX2_addPlot_25 rfl rfl
      · refine s_iload_n dX2_addPlot_17 rfl ?_
        refine s_bipush (v := 20) dX2_addPlot_18 (by decide) ?_
        refine s_icmp_le (tgt := 26) dX2_addPlot_20 (by decide) (fun c4 => ?_) (fun c4 => ?_)
        · refine s_aload_n dX2_addPlot_26 rfl ?_
          refine s_gI dX2_addPlot_27 fX2_43 fun v3 => ?_
          refine s_iconst (v := 3) dX2_addPlot_30 (by decide) ?_
          refine s_icmp_lt (tgt := 37) dX2_addPlot_31 (by decide) (fun c5 => ?_) (fun c5 => ?_)
          · refine s_aload_n dX2_addPlot_37 rfl ?_
            refine s_gR dX2_addPlot_38 fX2_33 fun v4 => ?_
            refine s_aload_n dX2_addPlot_41 rfl ?_
            refine s_gI dX2_addPlot_42 fX2_43 fun v5 => ?_
            refine s_iload_n dX2_addPlot_45 rfl ?_
            refine s_sI dX2_addPlot_46 ?_
            refine s_aload_n dX2_addPlot_47 rfl ?_
            refine s_gR dX2_addPlot_48 fX2_37 fun v6 => ?_
            refine s_aload_n dX2_addPlot_51 rfl ?_
            refine s_gI dX2_addPlot_52 fX2_43 fun v7 => ?_
            refine s_iconst (v := 0) dX2_addPlot_55 (by decide) ?_
            refine s_sI dX2_addPlot_56 ?_
            refine s_aload_n dX2_addPlot_57 rfl ?_
            refine s_gR dX2_addPlot_58 fX2_40 fun v8 => ?_
            refine s_aload_n dX2_addPlot_61 rfl ?_
            refine s_gI dX2_addPlot_62 fX2_43 fun v9 => ?_
            refine s_iload_n dX2_addPlot_65 rfl ?_
            refine s_sI dX2_addPlot_66 ?_
            refine s_aload_n dX2_addPlot_67 rfl ?_
            refine s_gR dX2_addPlot_68 fX2_50 fun v10 => ?_
            refine s_aload_n dX2_addPlot_71 rfl ?_
            refine s_gI dX2_addPlot_72 fX2_43 fun v11 => ?_
            refine s_iload_n dX2_addPlot_75 rfl ?_
            refine s_sI dX2_addPlot_76 ?_
            refine s_aload_n dX2_addPlot_77 rfl ?_
            refine s_iconst (v := 0) dX2_addPlot_78 (by decide) ?_
            refine s_put dX2_addPlot_79 fX2_56 rfl rfl ?_
            refine s_aload_n dX2_addPlot_82 rfl ?_
            refine s_dup dX2_addPlot_83 rfl ?_
            refine s_gI dX2_addPlot_84 fX2_43 fun v12 => ?_
            refine s_dup_x1 dX2_addPlot_87 rfl rfl ?_
            refine s_iconst (v := 1) dX2_addPlot_88 (by decide) ?_
            refine s_iadd dX2_addPlot_89 ?_
            refine s_put dX2_addPlot_90 fX2_43 rfl rfl ?_
            exact s_ireturn dX2_addPlot_93 rfl rfl
          · refine s_bipush (v := -4) dX2_addPlot_34 (by decide) ?_
            exact s_ireturn dX2_addPlot_36 rfl rfl
        · refine s_bipush (v := -2) dX2_addPlot_23 (by decide) ?_
          exact s_ireturn dX2_addPlot_25 rfl rfl
theorem CX2_addPlot {l : Launch} {g : qG} {d : Nat} (x0 : Nat) (x1 : Int32) (x2 : Int32) : qCt l g mX2_addPlot d 0 0 cvI [.ref x0, .int x1, .int x2] (FX2_addPlot x0 x1 x2) := s_of pn_X2 (Nat.le_of_ble_eq_true rfl) fun n => FX2_addPlot_ok x0 x1 x2
def FX2_addShirt (x0 : Nat) (x1 : Int32) : qP Int32 :=
if x1 < (1 : Int32) then (
qr (-2 : Int32)) else (
if x1 ≤ (12 : Int32) then (
qb (gI 2 x0 5) fun v1 =>
if v1 < (4 : Int32) then (
qb (gR 2 x0 3) fun v2 =>
qb (gI 2 x0 5) fun v3 =>
qb (sI v2 ((3 : Int32) + v3) x1) fun _ =>
qb (gR 2 x0 6) fun v4 =>
qb (gI 2 x0 5) fun v5 =>
qb (sI v4 ((3 : Int32) + v5) (0 : Int32)) fun _ =>
qb (pV 2 x0 8 (.int (0 : Int32))) fun _ =>
qb (gI 2 x0 5) fun v6 =>
qb (pV 2 x0 5 (.int (v6 + (1 : Int32)))) fun _ =>
qr v6) else (
qr (-4 : Int32))) else (
qr (-2 : Int32)))
set_option maxRecDepth 100000 in
set_option maxHeartbeats 4000000 in
theorem FX2_addShirt_ok {l : Launch} {g : qG} {d n : Nat} (x0 : Nat) (x1 : Int32) : qS l g mX2_addShirt d n 0 0 0 0 cvI 0 [(0, .ref x0), (1, .int x1)] [] (FX2_addShirt x0 x1) := by
  unfold FX2_addShirt
  refine s_iload_n dX2_addShirt_0 rfl ?_
  refine s_iconst (v := 1) dX2_addShirt_1 (by decide) ?_
  refine s_icmp_lt (tgt := 11) dX2_addShirt_2 (by decide) (fun c1 => ?_) (fun c1 => ?_)
  · refine s_bipush (v := -2) dX2_addShirt_11 (by decide) ?_
    exact s_ireturn dX2_addShirt_13 rfl rfl
  · refine s_iload_n dX2_addShirt_5 rfl ?_
    refine s_bipush (v := 12) dX2_addShirt_6 (by decide) ?_
    refine s_icmp_le (tgt := 14) dX2_addShirt_8 (by decide) (fun c2 => ?_) (fun c2 => ?_)
    · refine s_aload_n dX2_addShirt_14 rfl ?_
      refine s_gI dX2_addShirt_15 fX2_47 fun v1 => ?_
      refine s_iconst (v := 4) dX2_addShirt_18 (by decide) ?_
      refine s_icmp_lt (tgt := 25) dX2_addShirt_19 (by decide) (fun c3 => ?_) (fun c3 => ?_)
      · refine s_aload_n dX2_addShirt_25 rfl ?_
        refine s_gR dX2_addShirt_26 fX2_40 fun v2 => ?_
        refine s_iconst (v := 3) dX2_addShirt_29 (by decide) ?_
        refine s_aload_n dX2_addShirt_30 rfl ?_
        refine s_gI dX2_addShirt_31 fX2_47 fun v3 => ?_
        refine s_iadd dX2_addShirt_34 ?_
        refine s_iload_n dX2_addShirt_35 rfl ?_
        refine s_sI dX2_addShirt_36 ?_
        refine s_aload_n dX2_addShirt_37 rfl ?_
        refine s_gR dX2_addShirt_38 fX2_50 fun v4 => ?_
        refine s_iconst (v := 3) dX2_addShirt_41 (by decide) ?_
        refine s_aload_n dX2_addShirt_42 rfl ?_
        refine s_gI dX2_addShirt_43 fX2_47 fun v5 => ?_
        refine s_iadd dX2_addShirt_46 ?_
        refine s_iconst (v := 0) dX2_addShirt_47 (by decide) ?_
        refine s_sI dX2_addShirt_48 ?_
        refine s_aload_n dX2_addShirt_49 rfl ?_
        refine s_iconst (v := 0) dX2_addShirt_50 (by decide) ?_
        refine s_put dX2_addShirt_51 fX2_56 rfl rfl ?_
        refine s_aload_n dX2_addShirt_54 rfl ?_
        refine s_dup dX2_addShirt_55 rfl ?_
        refine s_gI dX2_addShirt_56 fX2_47 fun v6 => ?_
        refine s_dup_x1 dX2_addShirt_59 rfl rfl ?_
        refine s_iconst (v := 1) dX2_addShirt_60 (by decide) ?_
        refine s_iadd dX2_addShirt_61 ?_
        refine s_put dX2_addShirt_62 fX2_47 rfl rfl ?_
        exact s_ireturn dX2_addShirt_65 rfl rfl
      · refine s_bipush (v := -4) dX2_addShirt_22 (by decide) ?_
        exact s_ireturn dX2_addShirt_24 rfl rfl
    · refine s_bipush (v := -2) dX2_addShirt_11 (by decide) ?_
      exact s_ireturn dX2_addShirt_13 rfl rfl
theorem CX2_addShirt {l : Launch} {g : qG} {d : Nat} (x0 : Nat) (x1 : Int32) : qCt l g mX2_addShirt d 0 0 cvI [.ref x0, .int x1] (FX2_addShirt x0 x1) := s_of pn_X2 (Nat.le_of_ble_eq_true rfl) fun n => FX2_addShirt_ok x0 x1
def FX2_tellBare (x0 : Nat) (x1 : Int32) (x2 : Int32) : qP Int32 :=
qb (qcl 2 x0) fun _ => qb (FX2_hasPlot x0 x1) fun v1 =>
if v1 = 0 then (
qr (-2 : Int32)) else (
if x2 < 0 then (
qr (-2 : Int32)) else (
if x2 ≤ (20 : Int32) then (
qb (gR 2 x0 2) fun v2 =>
qb (aI v2 x1) fun v3 =>
qb (gR 2 x0 2) fun v4 =>
qb (sI v4 x1 x2) fun _ =>
qr v3) else (
qr (-2 : Int32))))
set_option maxRecDepth 100000 in
set_option maxHeartbeats 4000000 in
theorem FX2_tellBare_ok {l : Launch} {g : qG} {d n : Nat} (x0 : Nat) (x1 : Int32) (x2 : Int32) : qS l g mX2_tellBare (d + 1) n 0 0 0 0 cvI 0 [(0, .ref x0), (1, .int x1), (2, .int x2)] [] (FX2_tellBare x0 x1 x2) := by
  unfold FX2_tellBare
  refine s_aload_n dX2_tellBare_0 rfl ?_
  refine s_iload_n dX2_tellBare_1 rfl ?_
  refine s_virtI (as := [.int x1]) (rest := []) dX2_tellBare_2 vX2_99 (CX2_hasPlot _ _) (Nat.le_of_ble_eq_true rfl) ⟨Nat.le_refl _, Nat.le_refl _⟩ fun v1 => ?_
  refine s_if_eq (tgt := 18) dX2_tellBare_5 (by decide) (fun c1 => ?_) (fun c1 => ?_)
  · refine s_bipush (v := -2) dX2_tellBare_18 (by decide) ?_
    exact s_ireturn dX2_tellBare_20 rfl rfl
  · refine s_iload_n dX2_tellBare_8 rfl ?_
    refine s_if_lt (tgt := 18) dX2_tellBare_9 (by decide) (fun c2 => ?_) (fun c2 => ?_)
    · refine s_bipush (v := -2) dX2_tellBare_18 (by decide) ?_
      exact s_ireturn dX2_tellBare_20 rfl rfl
    · refine s_iload_n dX2_tellBare_12 rfl ?_
      refine s_bipush (v := 20) dX2_tellBare_13 (by decide) ?_
      refine s_icmp_le (tgt := 21) dX2_tellBare_15 (by decide) (fun c3 => ?_) (fun c3 => ?_)
      · refine s_aload_n dX2_tellBare_21 rfl ?_
        refine s_gR dX2_tellBare_22 fX2_37 fun v2 => ?_
        refine s_iload_n dX2_tellBare_25 rfl ?_
        refine s_aI dX2_tellBare_26 fun v3 => ?_
        refine s_istore_n (lv' := [(3, .int v3), (0, .ref x0), (1, .int x1), (2, .int x2)]) dX2_tellBare_27 (by decide) rfl ?_
        refine s_aload_n dX2_tellBare_28 rfl ?_
        refine s_gR dX2_tellBare_29 fX2_37 fun v4 => ?_
        refine s_iload_n dX2_tellBare_32 rfl ?_
        refine s_iload_n dX2_tellBare_33 rfl ?_
        refine s_sI dX2_tellBare_34 ?_
        refine s_iload_n dX2_tellBare_35 rfl ?_
        exact s_ireturn dX2_tellBare_36 rfl rfl
      · refine s_bipush (v := -2) dX2_tellBare_18 (by decide) ?_
        exact s_ireturn dX2_tellBare_20 rfl rfl
theorem CX2_tellBare {l : Launch} {g : qG} {d : Nat} (x0 : Nat) (x1 : Int32) (x2 : Int32) : qCt l g mX2_tellBare (d + 1) 0 0 cvI [.ref x0, .int x1, .int x2] (FX2_tellBare x0 x1 x2) := s_of pn_X2 (Nat.le_of_ble_eq_true rfl) fun n => FX2_tellBare_ok x0 x1 x2
def FX2_pick (x0 : Nat) (x1 : Nat) (x2 : Int32) : qP Int32 :=
qb (gR 2 x0 0) fun v1 =>
qb (gR 2 x0 1) fun v2 =>
qb (aI v2 x2) fun v3 =>
qb (aQ 0 v1 v3) fun y => qb (qso y) fun v4 =>
qb (aI x1 x2) fun v5 =>
qb (aI x1 (7 : Int32)) fun v6 =>
qb (aI x1 (9 : Int32)) fun v7 =>
qb (D_picks v4 v7) fun v8 =>
qb (aI x1 x2) fun v9 =>
qb (sI x1 x2 (v9 - (if (if ((30 : Int32) - v6) < v5 then ((30 : Int32) - v6) else v5) < v8 then (if ((30 : Int32) - v6) < v5 then ((30 : Int32) - v6) else v5) else v8))) fun _ =>
qb (aI x1 (7 : Int32)) fun v10 =>
qb (sI x1 (7 : Int32) (v10 + (if (if ((30 : Int32) - v6) < v5 then ((30 : Int32) - v6) else v5) < v8 then (if ((30 : Int32) - v6) < v5 then ((30 : Int32) - v6) else v5) else v8))) fun _ =>
qb (aI x1 (8 : Int32)) fun v11 =>
qb (D_hurts v4) fun v12 =>
qb (sI x1 (8 : Int32) (if (9 : Int32) < (v11 + v12) then (9 : Int32) else (v11 + v12))) fun _ =>
qr (if (if ((30 : Int32) - v6) < v5 then ((30 : Int32) - v6) else v5) < v8 then (if ((30 : Int32) - v6) < v5 then ((30 : Int32) - v6) else v5) else v8)
set_option maxRecDepth 100000 in
set_option maxHeartbeats 4000000 in
theorem FX2_pick_ok {l : Launch} {g : qG} {d n : Nat} (x0 : Nat) (x1 : Nat) (x2 : Int32) : qS l g mX2_pick (d + 3) n 0 0 0 0 cvI 0 [(0, .ref x0), (1, .ref x1), (2, .int x2)] [] (FX2_pick x0 x1 x2) := by
  unfold FX2_pick
  refine s_aload_n dX2_pick_0 rfl ?_
  refine s_gR dX2_pick_1 fX2_27 fun v1 => ?_
  refine s_aload_n dX2_pick_4 rfl ?_
  refine s_gR dX2_pick_5 fX2_33 fun v2 => ?_
  refine s_iload_n dX2_pick_8 rfl ?_
  refine s_aI dX2_pick_9 fun v3 => ?_
  refine s_aR (by decide) dX2_pick_10 fun v4 => ?_
  refine s_astore_n (lv' := [(3, .ref v4), (0, .ref x0), (1, .ref x1), (2, .int x2)]) dX2_pick_11 (by decide) rfl ?_
  refine s_aload_n dX2_pick_12 rfl ?_
  refine s_iload_n dX2_pick_13 rfl ?_
  refine s_aI dX2_pick_14 fun v5 => ?_
  refine s_bipush (v := 30) dX2_pick_15 (by decide) ?_
  refine s_aload_n dX2_pick_17 rfl ?_
  refine s_bipush (v := 7) dX2_pick_18 (by decide) ?_
  refine s_aI dX2_pick_20 fun v6 => ?_
  refine s_isub dX2_pick_21 ?_
  refine s_min dX2_pick_22 tX2_127 kw_ns kw_mi kw_nc (Nat.le_of_ble_eq_true rfl) ⟨Nat.le_refl _, Nat.le_refl _⟩ ?_
  refine s_istore (lv' := [(4, .int (if ((30 : Int32) - v6) < v5 then ((30 : Int32) - v6) else v5)), (3, .ref v4), (0, .ref x0), (1, .ref x1), (2, .int x2)]) dX2_pick_25 (by decide) rfl ?_
  refine s_aload_n dX2_pick_27 rfl ?_
  refine s_aload_n dX2_pick_28 rfl ?_
  refine s_bipush (v := 9) dX2_pick_29 (by decide) ?_
  refine s_aI dX2_pick_31 fun v7 => ?_
  refine s_over (as := [.int v7]) (rest := []) dX2_pick_32 (OX2_133 _ _) (Nat.le_of_ble_eq_true rfl) ⟨Nat.le_refl _, Nat.le_refl _⟩ fun v8 => ?_
  refine s_iload dX2_pick_35 rfl ?_
  refine s_min dX2_pick_37 tX2_127 kw_ns kw_mi kw_nc (Nat.le_of_ble_eq_true rfl) ⟨Nat.le_refl _, Nat.le_refl _⟩ ?_
  refine s_istore (lv' := [(5, .int (if (if ((30 : Int32) - v6) < v5 then ((30 : Int32) - v6) else v5) < v8 then (if ((30 : Int32) - v6) < v5 then ((30 : Int32) - v6) else v5) else v8)), (4, .int (if ((30 : Int32) - v6) < v5 then ((30 : Int32) - v6) else v5)), (3, .ref v4), (0, .ref x0), (1, .ref x1), (2, .int x2)]) dX2_pick_40 (by decide) rfl ?_
  refine s_aload_n dX2_pick_42 rfl ?_
  refine s_iload_n dX2_pick_43 rfl ?_
  refine s_dup2 dX2_pick_44 rfl rfl ?_
  refine s_aI dX2_pick_45 fun v9 => ?_
  refine s_iload dX2_pick_46 rfl ?_
  refine s_isub dX2_pick_48 ?_
  refine s_sI dX2_pick_49 ?_
  refine s_aload_n dX2_pick_50 rfl ?_
  refine s_bipush (v := 7) dX2_pick_51 (by decide) ?_
  refine s_dup2 dX2_pick_53 rfl rfl ?_
  refine s_aI dX2_pick_54 fun v10 => ?_
  refine s_iload dX2_pick_55 rfl ?_
  refine s_iadd dX2_pick_57 ?_
  refine s_sI dX2_pick_58 ?_
  refine s_aload_n dX2_pick_59 rfl ?_
  refine s_bipush (v := 8) dX2_pick_60 (by decide) ?_
  refine s_aload_n dX2_pick_62 rfl ?_
  refine s_bipush (v := 8) dX2_pick_63 (by decide) ?_
  refine s_aI dX2_pick_65 fun v11 => ?_
  refine s_aload_n dX2_pick_66 rfl ?_
  refine s_over (as := []) (rest := [.int v11, .int (8 : Int32), .ref x1]) dX2_pick_67 (OX2_136 _) (Nat.le_of_ble_eq_true rfl) ⟨Nat.le_refl _, Nat.le_refl _⟩ fun v12 => ?_
  refine s_iadd dX2_pick_70 ?_
  refine s_bipush (v := 9) dX2_pick_71 (by decide) ?_
  refine s_min dX2_pick_73 tX2_127 kw_ns kw_mi kw_nc (Nat.le_of_ble_eq_true rfl) ⟨Nat.le_refl _, Nat.le_refl _⟩ ?_
  refine s_sI dX2_pick_76 ?_
  refine s_iload dX2_pick_77 rfl ?_
  exact s_ireturn dX2_pick_79 rfl rfl
theorem CX2_pick {l : Launch} {g : qG} {d : Nat} (x0 : Nat) (x1 : Nat) (x2 : Int32) : qCt l g mX2_pick (d + 3) 0 0 cvI [.ref x0, .ref x1, .int x2] (FX2_pick x0 x1 x2) := s_of pn_X2 (Nat.le_of_ble_eq_true rfl) fun n => FX2_pick_ok x0 x1 x2
def FX2_partsBy (x0 : Int32) : qP Int32 :=
qr ((3 : Int32) - (x0 / (3 : Int32)))
set_option maxRecDepth 100000 in
set_option maxHeartbeats 4000000 in
theorem FX2_partsBy_ok {l : Launch} {g : qG} {d n : Nat} (x0 : Int32) : qS l g mX2_partsBy d n 0 0 0 0 cvI 0 [(0, .int x0)] [] (FX2_partsBy x0) := by
  unfold FX2_partsBy
  refine s_iconst (v := 3) dX2_partsBy_0 (by decide) ?_
  refine s_iload_n dX2_partsBy_1 rfl ?_
  refine s_iconst (v := 3) dX2_partsBy_2 (by decide) ?_
  refine s_idiv dX2_partsBy_3 (by decide) ?_
  refine s_isub dX2_partsBy_4 ?_
  exact s_ireturn dX2_partsBy_5 rfl rfl
theorem CX2_partsBy {l : Launch} {g : qG} {d : Nat} (x0 : Int32) : qCt l g mX2_partsBy d 0 0 cvI [.int x0] (FX2_partsBy x0) := s_of pn_X2 (Nat.le_of_ble_eq_true rfl) fun n => FX2_partsBy_ok x0
def FX2_sew (x0 : Nat) (x1 : Nat) (x2 : Int32) : qP Int32 :=
qb (aI x1 (8 : Int32)) fun v1 =>
qb (FX2_partsBy v1) fun v2 =>
qb (aI x1 (7 : Int32)) fun v3 =>
qb (gR 2 x0 3) fun v4 =>
qb (aI v4 x2) fun v5 =>
qb (aI x1 x2) fun v6 =>
qb (aI x1 x2) fun v7 =>
qb (sI x1 x2 (v7 + (if (v5 - v6) < (if v3 < v2 then v3 else v2) then (v5 - v6) else (if v3 < v2 then v3 else v2)))) fun _ =>
qb (aI x1 (7 : Int32)) fun v8 =>
qb (sI x1 (7 : Int32) (v8 - (if (v5 - v6) < (if v3 < v2 then v3 else v2) then (v5 - v6) else (if v3 < v2 then v3 else v2)))) fun _ =>
qr (if (v5 - v6) < (if v3 < v2 then v3 else v2) then (v5 - v6) else (if v3 < v2 then v3 else v2))
set_option maxRecDepth 100000 in
set_option maxHeartbeats 4000000 in
theorem FX2_sew_ok {l : Launch} {g : qG} {d n : Nat} (x0 : Nat) (x1 : Nat) (x2 : Int32) : qS l g mX2_sew (d + 1) n 0 0 0 0 cvI 0 [(0, .ref x0), (1, .ref x1), (2, .int x2)] [] (FX2_sew x0 x1 x2) := by
  unfold FX2_sew
  refine s_aload_n dX2_sew_0 rfl ?_
  refine s_bipush (v := 8) dX2_sew_1 (by decide) ?_
  refine s_aI dX2_sew_3 fun v1 => ?_
  refine s_staticI (as := [.int v1]) (rest := []) dX2_sew_4 sX2_139 (CX2_partsBy _) (Nat.le_of_ble_eq_true rfl) ⟨Nat.le_refl _, Nat.le_refl _⟩ fun v2 => ?_
  refine s_aload_n dX2_sew_7 rfl ?_
  refine s_bipush (v := 7) dX2_sew_8 (by decide) ?_
  refine s_aI dX2_sew_10 fun v3 => ?_
  refine s_min dX2_sew_11 tX2_127 kw_ns kw_mi kw_nc (Nat.le_of_ble_eq_true rfl) ⟨Nat.le_refl _, Nat.le_refl _⟩ ?_
  refine s_istore_n (lv' := [(3, .int (if v3 < v2 then v3 else v2)), (0, .ref x0), (1, .ref x1), (2, .int x2)]) dX2_sew_14 (by decide) rfl ?_
  refine s_iload_n dX2_sew_15 rfl ?_
  refine s_aload_n dX2_sew_16 rfl ?_
  refine s_gR dX2_sew_17 fX2_40 fun v4 => ?_
  refine s_iload_n dX2_sew_20 rfl ?_
  refine s_aI dX2_sew_21 fun v5 => ?_
  refine s_aload_n dX2_sew_22 rfl ?_
  refine s_iload_n dX2_sew_23 rfl ?_
  refine s_aI dX2_sew_24 fun v6 => ?_
  refine s_isub dX2_sew_25 ?_
  refine s_min dX2_sew_26 tX2_127 kw_ns kw_mi kw_nc (Nat.le_of_ble_eq_true rfl) ⟨Nat.le_refl _, Nat.le_refl _⟩ ?_
  refine s_istore (lv' := [(4, .int (if (v5 - v6) < (if v3 < v2 then v3 else v2) then (v5 - v6) else (if v3 < v2 then v3 else v2))), (3, .int (if v3 < v2 then v3 else v2)), (0, .ref x0), (1, .ref x1), (2, .int x2)]) dX2_sew_29 (by decide) rfl ?_
  refine s_aload_n dX2_sew_31 rfl ?_
  refine s_iload_n dX2_sew_32 rfl ?_
  refine s_dup2 dX2_sew_33 rfl rfl ?_
  refine s_aI dX2_sew_34 fun v7 => ?_
  refine s_iload dX2_sew_35 rfl ?_
  refine s_iadd dX2_sew_37 ?_
  refine s_sI dX2_sew_38 ?_
  refine s_aload_n dX2_sew_39 rfl ?_
  refine s_bipush (v := 7) dX2_sew_40 (by decide) ?_
  refine s_dup2 dX2_sew_42 rfl rfl ?_
  refine s_aI dX2_sew_43 fun v8 => ?_
  refine s_iload dX2_sew_44 rfl ?_
  refine s_isub dX2_sew_46 ?_
  refine s_sI dX2_sew_47 ?_
  refine s_iload dX2_sew_48 rfl ?_
  exact s_ireturn dX2_sew_50 rfl rfl
theorem CX2_sew {l : Launch} {g : qG} {d : Nat} (x0 : Nat) (x1 : Nat) (x2 : Int32) : qCt l g mX2_sew (d + 1) 0 0 cvI [.ref x0, .ref x1, .int x2] (FX2_sew x0 x1 x2) := s_of pn_X2 (Nat.le_of_ble_eq_true rfl) fun n => FX2_sew_ok x0 x1 x2
def FX2_rest (x0 : Nat) (x1 : Nat) : qP Int32 :=
qb (aI x1 (8 : Int32)) fun v1 =>
qb (sI x1 (8 : Int32) (if (v1 - (2 : Int32)) < (0 : Int32) then (0 : Int32) else (v1 - (2 : Int32)))) fun _ =>
qb (aI x1 (8 : Int32)) fun v2 =>
qr v2
set_option maxRecDepth 100000 in
set_option maxHeartbeats 4000000 in
theorem FX2_rest_ok {l : Launch} {g : qG} {d n : Nat} (x0 : Nat) (x1 : Nat) : qS l g mX2_rest (d + 1) n 0 0 0 0 cvI 0 [(0, .ref x0), (1, .ref x1)] [] (FX2_rest x0 x1) := by
  unfold FX2_rest
  refine s_aload_n dX2_rest_0 rfl ?_
  refine s_bipush (v := 8) dX2_rest_1 (by decide) ?_
  refine s_aload_n dX2_rest_3 rfl ?_
  refine s_bipush (v := 8) dX2_rest_4 (by decide) ?_
  refine s_aI dX2_rest_6 fun v1 => ?_
  refine s_iconst (v := 2) dX2_rest_7 (by decide) ?_
  refine s_isub dX2_rest_8 ?_
  refine s_iconst (v := 0) dX2_rest_9 (by decide) ?_
  refine s_max dX2_rest_10 tX2_142 kw_xs kw_mi kw_xc (Nat.le_of_ble_eq_true rfl) ⟨Nat.le_refl _, Nat.le_refl _⟩ ?_
  refine s_sI dX2_rest_13 ?_
  refine s_aload_n dX2_rest_14 rfl ?_
  refine s_bipush (v := 8) dX2_rest_15 (by decide) ?_
  refine s_aI dX2_rest_17 fun v2 => ?_
  exact s_ireturn dX2_rest_18 rfl rfl
theorem CX2_rest {l : Launch} {g : qG} {d : Nat} (x0 : Nat) (x1 : Nat) : qCt l g mX2_rest (d + 1) 0 0 cvI [.ref x0, .ref x1] (FX2_rest x0 x1) := s_of pn_X2 (Nat.le_of_ble_eq_true rfl) fun n => FX2_rest_ok x0 x1
def UX2_pass_38 (R : Nat → Nat → Int32 → Int32 → qP Int32) (K95 : Nat → Int32 → qP Int32) (x0 : Nat) (x1 : Nat) (x3 : Int32) (x4 : Int32) : qP Int32 :=
qb (gI 2 x0 4) fun v1 =>
if v1 ≤ x4 then (
K95 x1 x3) else (
qb (aI x1 x4) fun v2 =>
qb (gR 2 x0 0) fun v3 =>
qb (gR 2 x0 1) fun v4 =>
qb (aI v4 x4) fun v5 =>
qb (aQ 0 v3 v5) fun y => qb (qso y) fun v6 =>
qb (aI x1 (9 : Int32)) fun v7 =>
qb (D_grows v6 v7) fun v8 =>
qb (gR 2 x0 3) fun v9 =>
qb (aI v9 x4) fun v10 =>
qb (sI x1 x4 (if v10 < (v2 + v8) then v10 else (v2 + v8))) fun _ =>
R x0 x1 x3 (x4 + 1))
set_option maxRecDepth 100000 in
set_option maxHeartbeats 4000000 in
theorem UX2_pass_38_ok {l : Launch} {g : qG} {d n : Nat} {R : Nat → Nat → Int32 → Int32 → qP Int32} (hR : ∀ (x0 : Nat) (x1 : Nat) (x3 : Int32) (x4 : Int32), qS l g mX2_pass (d + 4) n 0 0 0 0 cvI 38 [(0, .ref x0), (1, .ref x1), (3, .int x3), (4, .int x4)] [] (R x0 x1 x3 x4)) {K95 : Nat → Int32 → qP Int32} (hK95 : ∀ (x1 : Nat) (x3 : Int32), qS l g mX2_pass (d + 4) n 0 0 0 0 cvI 95 [(1, .ref x1), (3, .int x3)] [] (K95 x1 x3)) (x0 : Nat) (x1 : Nat) (x3 : Int32) (x4 : Int32) : qS l g mX2_pass (d + 4) n 0 0 0 0 cvI 38 [(0, .ref x0), (1, .ref x1), (3, .int x3), (4, .int x4)] [] (UX2_pass_38 R K95 x0 x1 x3 x4) := by
  unfold UX2_pass_38
  refine s_iload dX2_pass_38 rfl ?_
  refine s_aload_n dX2_pass_40 rfl ?_
  refine s_gI dX2_pass_41 fX2_43 fun v1 => ?_
  refine s_icmp_ge (tgt := 95) dX2_pass_44 (by decide) (fun c1 => ?_) (fun c1 => ?_)
  · refine s_locals [1, 2] rfl ?_
    exact hK95 x1 x3
  · refine s_aload_n dX2_pass_47 rfl ?_
    refine s_iload dX2_pass_48 rfl ?_
    refine s_aI dX2_pass_50 fun v2 => ?_
    refine s_aload_n dX2_pass_51 rfl ?_
    refine s_gR dX2_pass_52 fX2_27 fun v3 => ?_
    refine s_aload_n dX2_pass_55 rfl ?_
    refine s_gR dX2_pass_56 fX2_33 fun v4 => ?_
    refine s_iload dX2_pass_59 rfl ?_
    refine s_aI dX2_pass_61 fun v5 => ?_
    refine s_aR (by decide) dX2_pass_62 fun v6 => ?_
    refine s_aload_n dX2_pass_63 rfl ?_
    refine s_bipush (v := 9) dX2_pass_64 (by decide) ?_
    refine s_aI dX2_pass_66 fun v7 => ?_
    refine s_over (as := [.int v7]) (rest := [.int v2]) dX2_pass_67 (OX2_123 _ _) (Nat.le_of_ble_eq_true rfl) ⟨Nat.le_refl _, Nat.le_refl _⟩ fun v8 => ?_
    refine s_iadd dX2_pass_70 ?_
    refine s_istore (lv' := [(5, .int (v2 + v8)), (0, .ref x0), (1, .ref x1), (3, .int x3), (4, .int x4)]) dX2_pass_71 (by decide) rfl ?_
    refine s_aload_n dX2_pass_73 rfl ?_
    refine s_iload dX2_pass_74 rfl ?_
    refine s_iload dX2_pass_76 rfl ?_
    refine s_aload_n dX2_pass_78 rfl ?_
    refine s_gR dX2_pass_79 fX2_40 fun v9 => ?_
    refine s_iload dX2_pass_82 rfl ?_
    refine s_aI dX2_pass_84 fun v10 => ?_
    refine s_min dX2_pass_85 tX2_127 kw_ns kw_mi kw_nc (Nat.le_of_ble_eq_true rfl) ⟨Nat.le_refl _, Nat.le_refl _⟩ ?_
    refine s_sI dX2_pass_88 ?_
    refine s_iinc (lv' := [(4, .int (x4 + 1)), (5, .int (v2 + v8)), (0, .ref x0), (1, .ref x1), (3, .int x3)]) dX2_pass_89 rfl (by decide) rfl ?_
    refine s_goto (tgt := 38) dX2_pass_92 (by decide) ?_
    refine s_locals [2, 3, 4, 0] rfl ?_
    exact hR x0 x1 x3 (x4 + 1)
def WX2_pass_38 (K95 : Nat → Int32 → qP Int32) : Nat → Nat → Nat → Int32 → Int32 → qP Int32
  | 0 => fun _ _ _ _ => qfail
  | N + 1 => fun x0 x1 x3 x4 => UX2_pass_38 (WX2_pass_38 K95 N) K95 x0 x1 x3 x4
theorem WX2_pass_38_ok {l : Launch} {g : qG} {d n : Nat} {K95 : Nat → Int32 → qP Int32} (hK95 : ∀ (x1 : Nat) (x3 : Int32), qS l g mX2_pass (d + 4) n 0 0 0 0 cvI 95 [(1, .ref x1), (3, .int x3)] [] (K95 x1 x3)) : ∀ (N : Nat) (x0 : Nat) (x1 : Nat) (x3 : Int32) (x4 : Int32), qS l g mX2_pass (d + 4) n 0 0 0 0 cvI 38 [(0, .ref x0), (1, .ref x1), (3, .int x3), (4, .int x4)] [] (WX2_pass_38 K95 N x0 x1 x3 x4) := by
  intro N
  induction N with
  | zero => intro x0 x1 x3 x4; exact s_fail
  | succ N ih => intro x0 x1 x3 x4; exact UX2_pass_38_ok ih hK95 x0 x1 x3 x4
def UX2_pass_95 (x1 : Nat) (x3 : Int32) : qP Int32 :=
qb (aI x1 (9 : Int32)) fun v1 =>
qb (sI x1 (9 : Int32) (v1 + (1 : Int32))) fun _ =>
qr x3
set_option maxRecDepth 100000 in
set_option maxHeartbeats 4000000 in
theorem UX2_pass_95_ok {l : Launch} {g : qG} {d n : Nat} (x1 : Nat) (x3 : Int32) : qS l g mX2_pass (d + 4) n 0 0 0 0 cvI 95 [(1, .ref x1), (3, .int x3)] [] (UX2_pass_95 x1 x3) := by
  unfold UX2_pass_95
  refine s_aload_n dX2_pass_95 rfl ?_
  refine s_bipush (v := 9) dX2_pass_96 (by decide) ?_
  refine s_dup2 dX2_pass_98 rfl rfl ?_
  refine s_aI dX2_pass_99 fun v1 => ?_
  refine s_iconst (v := 1) dX2_pass_100 (by decide) ?_
  refine s_iadd dX2_pass_101 ?_
  refine s_sI dX2_pass_102 ?_
  refine s_iload_n dX2_pass_103 rfl ?_
  exact s_ireturn dX2_pass_104 rfl rfl
def FX2_pass (x0 : Nat) (x1 : Nat) (x2 : Int32) : qP Int32 :=
if (3 : Int32) ≤ x2 then (
if (7 : Int32) ≤ x2 then (
qb (qcl 2 x0) fun _ => qb (FX2_rest x0 x1) fun v1 =>
WX2_pass_38 (UX2_pass_95) 1000000 x0 x1 v1 (0 : Int32)) else (
qb (qcl 2 x0) fun _ => qb (FX2_sew x0 x1 x2) fun v2 =>
WX2_pass_38 (UX2_pass_95) 1000000 x0 x1 v2 (0 : Int32))) else (
qb (qcl 2 x0) fun _ => qb (FX2_pick x0 x1 x2) fun v3 =>
WX2_pass_38 (UX2_pass_95) 1000000 x0 x1 v3 (0 : Int32))
set_option maxRecDepth 100000 in
set_option maxHeartbeats 4000000 in
theorem FX2_pass_ok {l : Launch} {g : qG} {d n : Nat} (x0 : Nat) (x1 : Nat) (x2 : Int32) : qS l g mX2_pass (d + 4) n 0 0 0 0 cvI 0 [(0, .ref x0), (1, .ref x1), (2, .int x2)] [] (FX2_pass x0 x1 x2) := by
  unfold FX2_pass
  refine s_iload_n dX2_pass_0 rfl ?_
  refine s_iconst (v := 3) dX2_pass_1 (by decide) ?_
  refine s_icmp_ge (tgt := 14) dX2_pass_2 (by decide) (fun c1 => ?_) (fun c1 => ?_)
  · refine s_iload_n dX2_pass_14 rfl ?_
    refine s_bipush (v := 7) dX2_pass_15 (by decide) ?_
    refine s_icmp_ge (tgt := 29) dX2_pass_17 (by decide) (fun c2 => ?_) (fun c2 => ?_)
    · refine s_aload_n dX2_pass_29 rfl ?_
      refine s_aload_n dX2_pass_30 rfl ?_
      refine s_virtI (as := [.ref x1]) (rest := []) dX2_pass_31 vX2_119 (CX2_rest _ _) (Nat.le_of_ble_eq_true rfl) ⟨Nat.le_refl _, Nat.le_refl _⟩ fun v1 => ?_
      refine s_istore_n (lv' := [(3, .int v1), (0, .ref x0), (1, .ref x1), (2, .int x2)]) dX2_pass_34 (by decide) rfl ?_
      refine s_iconst (v := 0) dX2_pass_35 (by decide) ?_
      refine s_istore (lv' := [(4, .int (0 : Int32)), (3, .int v1), (0, .ref x0), (1, .ref x1), (2, .int x2)]) dX2_pass_36 (by decide) rfl ?_
      refine s_locals [2, 3, 1, 0] rfl ?_
      exact WX2_pass_38_ok (UX2_pass_95_ok) 1000000 x0 x1 v1 (0 : Int32)
    · refine s_aload_n dX2_pass_20 rfl ?_
      refine s_aload_n dX2_pass_21 rfl ?_
      refine s_iload_n dX2_pass_22 rfl ?_
      refine s_virtI (as := [.ref x1, .int x2]) (rest := []) dX2_pass_23 vX2_116 (CX2_sew _ _ _) (Nat.le_of_ble_eq_true rfl) ⟨Nat.le_refl _, Nat.le_refl _⟩ fun v2 => ?_
      refine s_goto (tgt := 34) dX2_pass_26 (by decide) ?_
      refine s_istore_n (lv' := [(3, .int v2), (0, .ref x0), (1, .ref x1), (2, .int x2)]) dX2_pass_34 (by decide) rfl ?_
      refine s_iconst (v := 0) dX2_pass_35 (by decide) ?_
      refine s_istore (lv' := [(4, .int (0 : Int32)), (3, .int v2), (0, .ref x0), (1, .ref x1), (2, .int x2)]) dX2_pass_36 (by decide) rfl ?_
      refine s_locals [2, 3, 1, 0] rfl ?_
      exact WX2_pass_38_ok (UX2_pass_95_ok) 1000000 x0 x1 v2 (0 : Int32)
  · refine s_aload_n dX2_pass_5 rfl ?_
    refine s_aload_n dX2_pass_6 rfl ?_
    refine s_iload_n dX2_pass_7 rfl ?_
    refine s_virtI (as := [.ref x1, .int x2]) (rest := []) dX2_pass_8 vX2_113 (CX2_pick _ _ _) (Nat.le_of_ble_eq_true rfl) ⟨Nat.le_refl _, Nat.le_refl _⟩ fun v3 => ?_
    refine s_goto (tgt := 34) dX2_pass_11 (by decide) ?_
    refine s_istore_n (lv' := [(3, .int v3), (0, .ref x0), (1, .ref x1), (2, .int x2)]) dX2_pass_34 (by decide) rfl ?_
    refine s_iconst (v := 0) dX2_pass_35 (by decide) ?_
    refine s_istore (lv' := [(4, .int (0 : Int32)), (3, .int v3), (0, .ref x0), (1, .ref x1), (2, .int x2)]) dX2_pass_36 (by decide) rfl ?_
    refine s_locals [2, 3, 1, 0] rfl ?_
    exact WX2_pass_38_ok (UX2_pass_95_ok) 1000000 x0 x1 v3 (0 : Int32)
theorem CX2_pass {l : Launch} {g : qG} {d : Nat} (x0 : Nat) (x1 : Nat) (x2 : Int32) : qCt l g mX2_pass (d + 4) 0 0 cvI [.ref x0, .ref x1, .int x2] (FX2_pass x0 x1 x2) := s_of pn_X2 (Nat.le_of_ble_eq_true rfl) fun n => FX2_pass_ok x0 x1 x2
def UX2_passNight_42 (x0 : Nat) (x1 : Int32) : qP Int32 :=
qb (gR 2 x0 6) fun v1 =>
qb (gR 2 x0 7) fun v2 =>
qb (gI 2 x0 8) fun v3 =>
qb (cp v1 (0 : Int32) v2 (v3 * (10 : Int32)) (10 : Int32)) fun _ =>
qb (gI 2 x0 8) fun v4 =>
qb (pV 2 x0 8 (.int (v4 + (1 : Int32)))) fun _ =>
qb (gR 2 x0 6) fun v5 =>
qb (qcl 2 x0) fun _ => qb (FX2_pass x0 v5 x1) fun v6 =>
qr v6
set_option maxRecDepth 100000 in
set_option maxHeartbeats 4000000 in
theorem UX2_passNight_42_ok {l : Launch} {g : qG} {d n : Nat} (x0 : Nat) (x1 : Int32) : qS l g mX2_passNight (d + 5) n 0 0 0 0 cvI 42 [(0, .ref x0), (1, .int x1)] [] (UX2_passNight_42 x0 x1) := by
  unfold UX2_passNight_42
  refine s_aload_n dX2_passNight_42 rfl ?_
  refine s_gR dX2_passNight_43 fX2_50 fun v1 => ?_
  refine s_iconst (v := 0) dX2_passNight_46 (by decide) ?_
  refine s_aload_n dX2_passNight_47 rfl ?_
  refine s_gR dX2_passNight_48 fX2_53 fun v2 => ?_
  refine s_aload_n dX2_passNight_51 rfl ?_
  refine s_gI dX2_passNight_52 fX2_56 fun v3 => ?_
  refine s_bipush (v := 10) dX2_passNight_55 (by decide) ?_
  refine s_imul dX2_passNight_57 ?_
  refine s_bipush (v := 10) dX2_passNight_58 (by decide) ?_
  refine s_copy dX2_passNight_60 aX2_86 kw_an kw_as kw_ai (Nat.le_of_ble_eq_true rfl) ?_
  refine s_aload_n dX2_passNight_63 rfl ?_
  refine s_dup dX2_passNight_64 rfl ?_
  refine s_gI dX2_passNight_65 fX2_56 fun v4 => ?_
  refine s_iconst (v := 1) dX2_passNight_68 (by decide) ?_
  refine s_iadd dX2_passNight_69 ?_
  refine s_put dX2_passNight_70 fX2_56 rfl rfl ?_
  refine s_aload_n dX2_passNight_73 rfl ?_
  refine s_aload_n dX2_passNight_74 rfl ?_
  refine s_gR dX2_passNight_75 fX2_50 fun v5 => ?_
  refine s_iload_n dX2_passNight_78 rfl ?_
  refine s_virtI (as := [.ref v5, .int x1]) (rest := []) dX2_passNight_79 vX2_109 (CX2_pass _ _ _) (Nat.le_of_ble_eq_true rfl) ⟨Nat.le_refl _, Nat.le_refl _⟩ fun v6 => ?_
  exact s_ireturn dX2_passNight_82 rfl rfl
def FX2_passNight (x0 : Nat) (x1 : Int32) : qP Int32 :=
qb (qcl 2 x0) fun _ => qb (FX2_hasNight x0 x1) fun v1 =>
if v1 = 0 then (
qr (-2 : Int32)) else (
qb (gI 2 x0 8) fun v2 =>
if v2 < (12 : Int32) then (
UX2_passNight_42 x0 x1) else (
qb (gR 2 x0 7) fun v3 =>
qb (gR 2 x0 7) fun v4 =>
qb (cp v3 (10 : Int32) v4 (0 : Int32) (110 : Int32)) fun _ =>
qb (pV 2 x0 8 (.int (11 : Int32))) fun _ =>
UX2_passNight_42 x0 x1))
set_option maxRecDepth 100000 in
set_option maxHeartbeats 4000000 in
theorem FX2_passNight_ok {l : Launch} {g : qG} {d n : Nat} (x0 : Nat) (x1 : Int32) : qS l g mX2_passNight (d + 5) n 0 0 0 0 cvI 0 [(0, .ref x0), (1, .int x1)] [] (FX2_passNight x0 x1) := by
  unfold FX2_passNight
  refine s_aload_n dX2_passNight_0 rfl ?_
  refine s_iload_n dX2_passNight_1 rfl ?_
  refine s_virtI (as := [.int x1]) (rest := []) dX2_passNight_2 vX2_106 (CX2_hasNight _ _) (Nat.le_of_ble_eq_true rfl) ⟨Nat.le_refl _, Nat.le_refl _⟩ fun v1 => ?_
  refine s_if_ne (tgt := 11) dX2_passNight_5 (by decide) (fun c1 => ?_) (fun c1 => ?_)
  · refine s_bipush (v := -2) dX2_passNight_8 (by decide) ?_
    exact s_ireturn dX2_passNight_10 rfl rfl
  · refine s_aload_n dX2_passNight_11 rfl ?_
    refine s_gI dX2_passNight_12 fX2_56 fun v2 => ?_
    refine s_bipush (v := 12) dX2_passNight_15 (by decide) ?_
    refine s_icmp_lt (tgt := 42) dX2_passNight_17 (by decide) (fun c2 => ?_) (fun c2 => ?_)
    · exact UX2_passNight_42_ok x0 x1
    · refine s_aload_n dX2_passNight_20 rfl ?_
      refine s_gR dX2_passNight_21 fX2_53 fun v3 => ?_
      refine s_bipush (v := 10) dX2_passNight_24 (by decide) ?_
      refine s_aload_n dX2_passNight_26 rfl ?_
      refine s_gR dX2_passNight_27 fX2_53 fun v4 => ?_
      refine s_iconst (v := 0) dX2_passNight_30 (by decide) ?_
      refine s_bipush (v := 110) dX2_passNight_31 (by decide) ?_
      refine s_copy dX2_passNight_33 aX2_86 kw_an kw_as kw_ai (Nat.le_of_ble_eq_true rfl) ?_
      refine s_aload_n dX2_passNight_36 rfl ?_
      refine s_bipush (v := 11) dX2_passNight_37 (by decide) ?_
      refine s_put dX2_passNight_39 fX2_56 rfl rfl ?_
      exact UX2_passNight_42_ok x0 x1
theorem CX2_passNight {l : Launch} {g : qG} {d : Nat} (x0 : Nat) (x1 : Int32) : qCt l g mX2_passNight (d + 5) 0 0 cvI [.ref x0, .int x1] (FX2_passNight x0 x1) := s_of pn_X2 (Nat.le_of_ble_eq_true rfl) fun n => FX2_passNight_ok x0 x1
def FX2_takeBack (x0 : Nat) : qP Int32 :=
qb (gI 2 x0 8) fun v1 =>
if 0 < v1 then (
qb (gI 2 x0 8) fun v2 =>
qb (pV 2 x0 8 (.int (v2 - (1 : Int32)))) fun _ =>
qb (gR 2 x0 7) fun v3 =>
qb (gI 2 x0 8) fun v4 =>
qb (gR 2 x0 6) fun v5 =>
qb (cp v3 (v4 * (10 : Int32)) v5 (0 : Int32) (10 : Int32)) fun _ =>
qr (1 : Int32)) else (
qr (-3 : Int32))
set_option maxRecDepth 100000 in
set_option maxHeartbeats 4000000 in
theorem FX2_takeBack_ok {l : Launch} {g : qG} {d n : Nat} (x0 : Nat) : qS l g mX2_takeBack (d + 1) n 0 0 0 0 cvI 0 [(0, .ref x0)] [] (FX2_takeBack x0) := by
  unfold FX2_takeBack
  refine s_aload_n dX2_takeBack_0 rfl ?_
  refine s_gI dX2_takeBack_1 fX2_56 fun v1 => ?_
  refine s_if_gt (tgt := 10) dX2_takeBack_4 (by decide) (fun c1 => ?_) (fun c1 => ?_)
  · refine s_aload_n dX2_takeBack_10 rfl ?_
    refine s_dup dX2_takeBack_11 rfl ?_
    refine s_gI dX2_takeBack_12 fX2_56 fun v2 => ?_
    refine s_iconst (v := 1) dX2_takeBack_15 (by decide) ?_
    refine s_isub dX2_takeBack_16 ?_
    refine s_put dX2_takeBack_17 fX2_56 rfl rfl ?_
    refine s_aload_n dX2_takeBack_20 rfl ?_
    refine s_gR dX2_takeBack_21 fX2_53 fun v3 => ?_
    refine s_aload_n dX2_takeBack_24 rfl ?_
    refine s_gI dX2_takeBack_25 fX2_56 fun v4 => ?_
    refine s_bipush (v := 10) dX2_takeBack_28 (by decide) ?_
    refine s_imul dX2_takeBack_30 ?_
    refine s_aload_n dX2_takeBack_31 rfl ?_
    refine s_gR dX2_takeBack_32 fX2_50 fun v5 => ?_
    refine s_iconst (v := 0) dX2_takeBack_35 (by decide) ?_
    refine s_bipush (v := 10) dX2_takeBack_36 (by decide) ?_
    refine s_copy dX2_takeBack_38 aX2_86 kw_an kw_as kw_ai (Nat.le_of_ble_eq_true rfl) ?_
    refine s_iconst (v := 1) dX2_takeBack_41 (by decide) ?_
    exact s_ireturn dX2_takeBack_42 rfl rfl
  · refine s_bipush (v := -3) dX2_takeBack_7 (by decide) ?_
    exact s_ireturn dX2_takeBack_9 rfl rfl
theorem CX2_takeBack {l : Launch} {g : qG} {d : Nat} (x0 : Nat) : qCt l g mX2_takeBack (d + 1) 0 0 cvI [.ref x0] (FX2_takeBack x0) := s_of pn_X2 (Nat.le_of_ble_eq_true rfl) fun n => FX2_takeBack_ok x0
def FX2_lacks (x0 : Nat) (x1 : Nat) (x2 : Int32) : qP Int32 :=
qb (gR 2 x0 3) fun v1 =>
qb (aI v1 ((3 : Int32) + x2)) fun v2 =>
qb (aI x1 ((3 : Int32) + x2)) fun v3 =>
qr (v2 - v3)
set_option maxRecDepth 100000 in
set_option maxHeartbeats 4000000 in
theorem FX2_lacks_ok {l : Launch} {g : qG} {d n : Nat} (x0 : Nat) (x1 : Nat) (x2 : Int32) : qS l g mX2_lacks d n 0 0 0 0 cvI 0 [(0, .ref x0), (1, .ref x1), (2, .int x2)] [] (FX2_lacks x0 x1 x2) := by
  unfold FX2_lacks
  refine s_aload_n dX2_lacks_0 rfl ?_
  refine s_gR dX2_lacks_1 fX2_40 fun v1 => ?_
  refine s_iconst (v := 3) dX2_lacks_4 (by decide) ?_
  refine s_iload_n dX2_lacks_5 rfl ?_
  refine s_iadd dX2_lacks_6 ?_
  refine s_aI dX2_lacks_7 fun v2 => ?_
  refine s_aload_n dX2_lacks_8 rfl ?_
  refine s_iconst (v := 3) dX2_lacks_9 (by decide) ?_
  refine s_iload_n dX2_lacks_10 rfl ?_
  refine s_iadd dX2_lacks_11 ?_
  refine s_aI dX2_lacks_12 fun v3 => ?_
  refine s_isub dX2_lacks_13 ?_
  exact s_ireturn dX2_lacks_14 rfl rfl
theorem CX2_lacks {l : Launch} {g : qG} {d : Nat} (x0 : Nat) (x1 : Nat) (x2 : Int32) : qCt l g mX2_lacks d 0 0 cvI [.ref x0, .ref x1, .int x2] (FX2_lacks x0 x1 x2) := s_of pn_X2 (Nat.le_of_ble_eq_true rfl) fun n => FX2_lacks_ok x0 x1 x2
def UX2_lacking_4 (R : Nat → Nat → Int32 → Int32 → qP Int32) (x0 : Nat) (x1 : Nat) (x2 : Int32) (x3 : Int32) : qP Int32 :=
qb (gI 2 x0 5) fun v1 =>
if v1 ≤ x3 then (
qr x2) else (
qb (qcl 2 x0) fun _ => qb (FX2_lacks x0 x1 x3) fun v2 =>
R x0 x1 (x2 + v2) (x3 + 1))
set_option maxRecDepth 100000 in
set_option maxHeartbeats 4000000 in
theorem UX2_lacking_4_ok {l : Launch} {g : qG} {d n : Nat} {R : Nat → Nat → Int32 → Int32 → qP Int32} (hR : ∀ (x0 : Nat) (x1 : Nat) (x2 : Int32) (x3 : Int32), qS l g mX2_lacking (d + 1) n 0 0 0 0 cvI 4 [(0, .ref x0), (1, .ref x1), (2, .int x2), (3, .int x3)] [] (R x0 x1 x2 x3)) (x0 : Nat) (x1 : Nat) (x2 : Int32) (x3 : Int32) : qS l g mX2_lacking (d + 1) n 0 0 0 0 cvI 4 [(0, .ref x0), (1, .ref x1), (2, .int x2), (3, .int x3)] [] (UX2_lacking_4 R x0 x1 x2 x3) := by
  unfold UX2_lacking_4
  refine s_iload_n dX2_lacking_4 rfl ?_
  refine s_aload_n dX2_lacking_5 rfl ?_
  refine s_gI dX2_lacking_6 fX2_47 fun v1 => ?_
  refine s_icmp_ge (tgt := 27) dX2_lacking_9 (by decide) (fun c1 => ?_) (fun c1 => ?_)
  · refine s_iload_n dX2_lacking_27 rfl ?_
    exact s_ireturn dX2_lacking_28 rfl rfl
  · refine s_iload_n dX2_lacking_12 rfl ?_
    refine s_aload_n dX2_lacking_13 rfl ?_
    refine s_aload_n dX2_lacking_14 rfl ?_
    refine s_iload_n dX2_lacking_15 rfl ?_
    refine s_virtI (as := [.ref x1, .int x3]) (rest := [.int x2]) dX2_lacking_16 vX2_145 (CX2_lacks _ _ _) (Nat.le_of_ble_eq_true rfl) ⟨Nat.le_refl _, Nat.le_refl _⟩ fun v2 => ?_
    refine s_iadd dX2_lacking_19 ?_
    refine s_istore_n (lv' := [(2, .int (x2 + v2)), (0, .ref x0), (1, .ref x1), (3, .int x3)]) dX2_lacking_20 (by decide) rfl ?_
    refine s_iinc (lv' := [(3, .int (x3 + 1)), (2, .int (x2 + v2)), (0, .ref x0), (1, .ref x1)]) dX2_lacking_21 rfl (by decide) rfl ?_
    refine s_goto (tgt := 4) dX2_lacking_24 (by decide) ?_
    refine s_locals [2, 3, 1, 0] rfl ?_
    exact hR x0 x1 (x2 + v2) (x3 + 1)
def WX2_lacking_4 : Nat → Nat → Nat → Int32 → Int32 → qP Int32
  | 0 => fun _ _ _ _ => qfail
  | N + 1 => fun x0 x1 x2 x3 => UX2_lacking_4 (WX2_lacking_4  N)  x0 x1 x2 x3
theorem WX2_lacking_4_ok {l : Launch} {g : qG} {d n : Nat} : ∀ (N : Nat) (x0 : Nat) (x1 : Nat) (x2 : Int32) (x3 : Int32), qS l g mX2_lacking (d + 1) n 0 0 0 0 cvI 4 [(0, .ref x0), (1, .ref x1), (2, .int x2), (3, .int x3)] [] (WX2_lacking_4  N x0 x1 x2 x3) := by
  intro N
  induction N with
  | zero => intro x0 x1 x2 x3; exact s_fail
  | succ N ih => intro x0 x1 x2 x3; exact UX2_lacking_4_ok ih  x0 x1 x2 x3
def FX2_lacking (x0 : Nat) (x1 : Nat) : qP Int32 :=
WX2_lacking_4 1000000 x0 x1 (0 : Int32) (0 : Int32)
set_option maxRecDepth 100000 in
set_option maxHeartbeats 4000000 in
theorem FX2_lacking_ok {l : Launch} {g : qG} {d n : Nat} (x0 : Nat) (x1 : Nat) : qS l g mX2_lacking (d + 1) n 0 0 0 0 cvI 0 [(0, .ref x0), (1, .ref x1)] [] (FX2_lacking x0 x1) := by
  unfold FX2_lacking
  refine s_iconst (v := 0) dX2_lacking_0 (by decide) ?_
  refine s_istore_n (lv' := [(2, .int (0 : Int32)), (0, .ref x0), (1, .ref x1)]) dX2_lacking_1 (by decide) rfl ?_
  refine s_iconst (v := 0) dX2_lacking_2 (by decide) ?_
  refine s_istore_n (lv' := [(3, .int (0 : Int32)), (2, .int (0 : Int32)), (0, .ref x0), (1, .ref x1)]) dX2_lacking_3 (by decide) rfl ?_
  refine s_locals [2, 3, 1, 0] rfl ?_
  exact WX2_lacking_4_ok  1000000 x0 x1 (0 : Int32) (0 : Int32)
theorem CX2_lacking {l : Launch} {g : qG} {d : Nat} (x0 : Nat) (x1 : Nat) : qCt l g mX2_lacking (d + 1) 0 0 cvI [.ref x0, .ref x1] (FX2_lacking x0 x1) := s_of pn_X2 (Nat.le_of_ble_eq_true rfl) fun n => FX2_lacking_ok x0 x1
def UX2_mostLacking_32 (R : Nat → Nat → Int32 → Int32 → qP Int32) (x0 : Nat) (x1 : Nat) (x3 : Int32) : qP Int32 :=
R x0 x1 x3 (x3 + 1)
set_option maxRecDepth 100000 in
set_option maxHeartbeats 4000000 in
theorem UX2_mostLacking_32_ok {l : Launch} {g : qG} {d n : Nat} {R : Nat → Nat → Int32 → Int32 → qP Int32} (hR : ∀ (x0 : Nat) (x1 : Nat) (x2 : Int32) (x3 : Int32), qS l g mX2_mostLacking (d + 1) n 0 0 0 0 cvI 4 [(0, .ref x0), (1, .ref x1), (2, .int x2), (3, .int x3)] [] (R x0 x1 x2 x3)) (x0 : Nat) (x1 : Nat) (x3 : Int32) : qS l g mX2_mostLacking (d + 1) n 0 0 0 0 cvI 32 [(0, .ref x0), (1, .ref x1), (3, .int x3)] [] (UX2_mostLacking_32 R x0 x1 x3) := by
  unfold UX2_mostLacking_32
  refine s_iload_n dX2_mostLacking_32 rfl ?_
  refine s_istore_n (lv' := [(2, .int x3), (0, .ref x0), (1, .ref x1), (3, .int x3)]) dX2_mostLacking_33 (by decide) rfl ?_
  refine s_iinc (lv' := [(3, .int (x3 + 1)), (2, .int x3), (0, .ref x0), (1, .ref x1)]) dX2_mostLacking_34 rfl (by decide) rfl ?_
  refine s_goto (tgt := 4) dX2_mostLacking_37 (by decide) ?_
  refine s_locals [2, 3, 1, 0] rfl ?_
  exact hR x0 x1 x3 (x3 + 1)
def UX2_mostLacking_4 (R : Nat → Nat → Int32 → Int32 → qP Int32) (x0 : Nat) (x1 : Nat) (x2 : Int32) (x3 : Int32) : qP Int32 :=
qb (gI 2 x0 5) fun v1 =>
if v1 ≤ x3 then (
qr x2) else (
if x2 = (-1 : Int32) then (
UX2_mostLacking_32 R x0 x1 x3) else (
qb (qcl 2 x0) fun _ => qb (FX2_lacks x0 x1 x3) fun v2 =>
qb (qcl 2 x0) fun _ => qb (FX2_lacks x0 x1 x2) fun v3 =>
if v2 ≤ v3 then (
R x0 x1 x2 (x3 + 1)) else (
UX2_mostLacking_32 R x0 x1 x3)))
set_option maxRecDepth 100000 in
set_option maxHeartbeats 4000000 in
theorem UX2_mostLacking_4_ok {l : Launch} {g : qG} {d n : Nat} {R : Nat → Nat → Int32 → Int32 → qP Int32} (hR : ∀ (x0 : Nat) (x1 : Nat) (x2 : Int32) (x3 : Int32), qS l g mX2_mostLacking (d + 1) n 0 0 0 0 cvI 4 [(0, .ref x0), (1, .ref x1), (2, .int x2), (3, .int x3)] [] (R x0 x1 x2 x3)) (x0 : Nat) (x1 : Nat) (x2 : Int32) (x3 : Int32) : qS l g mX2_mostLacking (d + 1) n 0 0 0 0 cvI 4 [(0, .ref x0), (1, .ref x1), (2, .int x2), (3, .int x3)] [] (UX2_mostLacking_4 R x0 x1 x2 x3) := by
  unfold UX2_mostLacking_4
  refine s_iload_n dX2_mostLacking_4 rfl ?_
  refine s_aload_n dX2_mostLacking_5 rfl ?_
  refine s_gI dX2_mostLacking_6 fX2_47 fun v1 => ?_
  refine s_icmp_ge (tgt := 40) dX2_mostLacking_9 (by decide) (fun c1 => ?_) (fun c1 => ?_)
  · refine s_iload_n dX2_mostLacking_40 rfl ?_
    exact s_ireturn dX2_mostLacking_41 rfl rfl
  · refine s_iload_n dX2_mostLacking_12 rfl ?_
    refine s_iconst (v := -1) dX2_mostLacking_13 (by decide) ?_
    refine s_icmp_eq (tgt := 32) dX2_mostLacking_14 (by decide) (fun c2 => ?_) (fun c2 => ?_)
    · refine s_locals [0, 1, 3] rfl ?_
      exact UX2_mostLacking_32_ok hR x0 x1 x3
    · refine s_aload_n dX2_mostLacking_17 rfl ?_
      refine s_aload_n dX2_mostLacking_18 rfl ?_
      refine s_iload_n dX2_mostLacking_19 rfl ?_
      refine s_virtI (as := [.ref x1, .int x3]) (rest := []) dX2_mostLacking_20 vX2_145 (CX2_lacks _ _ _) (Nat.le_of_ble_eq_true rfl) ⟨Nat.le_refl _, Nat.le_refl _⟩ fun v2 => ?_
      refine s_aload_n dX2_mostLacking_23 rfl ?_
      refine s_aload_n dX2_mostLacking_24 rfl ?_
      refine s_iload_n dX2_mostLacking_25 rfl ?_
      refine s_virtI (as := [.ref x1, .int x2]) (rest := [.int v2]) dX2_mostLacking_26 vX2_145 (CX2_lacks _ _ _) (Nat.le_of_ble_eq_true rfl) ⟨Nat.le_refl _, Nat.le_refl _⟩ fun v3 => ?_
      refine s_icmp_le (tgt := 34) dX2_mostLacking_29 (by decide) (fun c3 => ?_) (fun c3 => ?_)
      · refine s_iinc (lv' := [(3, .int (x3 + 1)), (0, .ref x0), (1, .ref x1), (2, .int x2)]) dX2_mostLacking_34 rfl (by decide) rfl ?_
        refine s_goto (tgt := 4) dX2_mostLacking_37 (by decide) ?_
        refine s_locals [1, 2, 3, 0] rfl ?_
        exact hR x0 x1 x2 (x3 + 1)
      · refine s_locals [0, 1, 3] rfl ?_
        exact UX2_mostLacking_32_ok hR x0 x1 x3
def WX2_mostLacking_4 : Nat → Nat → Nat → Int32 → Int32 → qP Int32
  | 0 => fun _ _ _ _ => qfail
  | N + 1 => fun x0 x1 x2 x3 => UX2_mostLacking_4 (WX2_mostLacking_4  N)  x0 x1 x2 x3
theorem WX2_mostLacking_4_ok {l : Launch} {g : qG} {d n : Nat} : ∀ (N : Nat) (x0 : Nat) (x1 : Nat) (x2 : Int32) (x3 : Int32), qS l g mX2_mostLacking (d + 1) n 0 0 0 0 cvI 4 [(0, .ref x0), (1, .ref x1), (2, .int x2), (3, .int x3)] [] (WX2_mostLacking_4  N x0 x1 x2 x3) := by
  intro N
  induction N with
  | zero => intro x0 x1 x2 x3; exact s_fail
  | succ N ih => intro x0 x1 x2 x3; exact UX2_mostLacking_4_ok ih  x0 x1 x2 x3
def FX2_mostLacking (x0 : Nat) (x1 : Nat) : qP Int32 :=
WX2_mostLacking_4 1000000 x0 x1 (-1 : Int32) (0 : Int32)
set_option maxRecDepth 100000 in
set_option maxHeartbeats 4000000 in
theorem FX2_mostLacking_ok {l : Launch} {g : qG} {d n : Nat} (x0 : Nat) (x1 : Nat) : qS l g mX2_mostLacking (d + 1) n 0 0 0 0 cvI 0 [(0, .ref x0), (1, .ref x1)] [] (FX2_mostLacking x0 x1) := by
  unfold FX2_mostLacking
  refine s_iconst (v := -1) dX2_mostLacking_0 (by decide) ?_
  refine s_istore_n (lv' := [(2, .int (-1 : Int32)), (0, .ref x0), (1, .ref x1)]) dX2_mostLacking_1 (by decide) rfl ?_
  refine s_iconst (v := 0) dX2_mostLacking_2 (by decide) ?_
  refine s_istore_n (lv' := [(3, .int (0 : Int32)), (2, .int (-1 : Int32)), (0, .ref x0), (1, .ref x1)]) dX2_mostLacking_3 (by decide) rfl ?_
  refine s_locals [2, 3, 1, 0] rfl ?_
  exact WX2_mostLacking_4_ok  1000000 x0 x1 (-1 : Int32) (0 : Int32)
theorem CX2_mostLacking {l : Launch} {g : qG} {d : Nat} (x0 : Nat) (x1 : Nat) : qCt l g mX2_mostLacking (d + 1) 0 0 cvI [.ref x0, .ref x1] (FX2_mostLacking x0 x1) := s_of pn_X2 (Nat.le_of_ble_eq_true rfl) fun n => FX2_mostLacking_ok x0 x1
def UX2_isAsToldBare_2 (R : Nat → Nat → Int32 → qP Int32) (x0 : Nat) (x1 : Nat) (x2 : Int32) : qP Int32 :=
qb (gI 2 x0 4) fun v1 =>
if v1 ≤ x2 then (
qr (1 : Int32)) else (
qb (aI x1 x2) fun v2 =>
qb (gR 2 x0 2) fun v3 =>
qb (aI v3 x2) fun v4 =>
if v2 = v4 then (
R x0 x1 (x2 + 1)) else (
qr (0 : Int32)))
set_option maxRecDepth 100000 in
set_option maxHeartbeats 4000000 in
theorem UX2_isAsToldBare_2_ok {l : Launch} {g : qG} {d n : Nat} {R : Nat → Nat → Int32 → qP Int32} (hR : ∀ (x0 : Nat) (x1 : Nat) (x2 : Int32), qS l g mX2_isAsToldBare d n 0 0 0 0 cvI 2 [(0, .ref x0), (1, .ref x1), (2, .int x2)] [] (R x0 x1 x2)) (x0 : Nat) (x1 : Nat) (x2 : Int32) : qS l g mX2_isAsToldBare d n 0 0 0 0 cvI 2 [(0, .ref x0), (1, .ref x1), (2, .int x2)] [] (UX2_isAsToldBare_2 R x0 x1 x2) := by
  unfold UX2_isAsToldBare_2
  refine s_iload_n dX2_isAsToldBare_2 rfl ?_
  refine s_aload_n dX2_isAsToldBare_3 rfl ?_
  refine s_gI dX2_isAsToldBare_4 fX2_43 fun v1 => ?_
  refine s_icmp_ge (tgt := 30) dX2_isAsToldBare_7 (by decide) (fun c1 => ?_) (fun c1 => ?_)
  · refine s_iconst (v := 1) dX2_isAsToldBare_30 (by decide) ?_
    exact s_ireturn dX2_isAsToldBare_31 rfl (by decide)
  · refine s_aload_n dX2_isAsToldBare_10 rfl ?_
    refine s_iload_n dX2_isAsToldBare_11 rfl ?_
    refine s_aI dX2_isAsToldBare_12 fun v2 => ?_
    refine s_aload_n dX2_isAsToldBare_13 rfl ?_
    refine s_gR dX2_isAsToldBare_14 fX2_37 fun v3 => ?_
    refine s_iload_n dX2_isAsToldBare_17 rfl ?_
    refine s_aI dX2_isAsToldBare_18 fun v4 => ?_
    refine s_icmp_eq (tgt := 24) dX2_isAsToldBare_19 (by decide) (fun c2 => ?_) (fun c2 => ?_)
    · refine s_iinc (lv' := [(2, .int (x2 + 1)), (0, .ref x0), (1, .ref x1)]) dX2_isAsToldBare_24 rfl (by decide) rfl ?_
      refine s_goto (tgt := 2) dX2_isAsToldBare_27 (by decide) ?_
      refine s_locals [1, 2, 0] rfl ?_
      exact hR x0 x1 (x2 + 1)
    · refine s_iconst (v := 0) dX2_isAsToldBare_22 (by decide) ?_
      exact s_ireturn dX2_isAsToldBare_23 rfl (by decide)
def WX2_isAsToldBare_2 : Nat → Nat → Nat → Int32 → qP Int32
  | 0 => fun _ _ _ => qfail
  | N + 1 => fun x0 x1 x2 => UX2_isAsToldBare_2 (WX2_isAsToldBare_2  N)  x0 x1 x2
theorem WX2_isAsToldBare_2_ok {l : Launch} {g : qG} {d n : Nat} : ∀ (N : Nat) (x0 : Nat) (x1 : Nat) (x2 : Int32), qS l g mX2_isAsToldBare d n 0 0 0 0 cvI 2 [(0, .ref x0), (1, .ref x1), (2, .int x2)] [] (WX2_isAsToldBare_2  N x0 x1 x2) := by
  intro N
  induction N with
  | zero => intro x0 x1 x2; exact s_fail
  | succ N ih => intro x0 x1 x2; exact UX2_isAsToldBare_2_ok ih  x0 x1 x2
def FX2_isAsToldBare (x0 : Nat) (x1 : Nat) : qP Int32 :=
WX2_isAsToldBare_2 1000000 x0 x1 (0 : Int32)
set_option maxRecDepth 100000 in
set_option maxHeartbeats 4000000 in
theorem FX2_isAsToldBare_ok {l : Launch} {g : qG} {d n : Nat} (x0 : Nat) (x1 : Nat) : qS l g mX2_isAsToldBare d n 0 0 0 0 cvI 0 [(0, .ref x0), (1, .ref x1)] [] (FX2_isAsToldBare x0 x1) := by
  unfold FX2_isAsToldBare
  refine s_iconst (v := 0) dX2_isAsToldBare_0 (by decide) ?_
  refine s_istore_n (lv' := [(2, .int (0 : Int32)), (0, .ref x0), (1, .ref x1)]) dX2_isAsToldBare_1 (by decide) rfl ?_
  refine s_locals [1, 2, 0] rfl ?_
  exact WX2_isAsToldBare_2_ok  1000000 x0 x1 (0 : Int32)
theorem CX2_isAsToldBare {l : Launch} {g : qG} {d : Nat} (x0 : Nat) (x1 : Nat) : qCt l g mX2_isAsToldBare d 0 0 cvI [.ref x0, .ref x1] (FX2_isAsToldBare x0 x1) := s_of pn_X2 (Nat.le_of_ble_eq_true rfl) fun n => FX2_isAsToldBare_ok x0 x1
def UX2_mixed_33 (R : Nat → Int64 → Int32 → qP Int64) (K108 : Nat → Int64 → qP Int64) (x0 : Nat) (x3 : Int64) (x5 : Int32) : qP Int64 :=
qb (gI 2 x0 4) fun v1 =>
if v1 ≤ x5 then (
K108 x0 x3) else (
qb (gR 2 x0 1) fun v2 =>
qb (aI v2 x5) fun v3 =>
qb (gR 2 x0 6) fun v4 =>
qb (aI v4 x5) fun v5 =>
qb (gR 2 x0 3) fun v6 =>
qb (aI v6 x5) fun v7 =>
qb (gR 2 x0 2) fun v8 =>
qb (aI v8 x5) fun v9 =>
R x0 (((31 : Int64) * (((31 : Int64) * (((31 : Int64) * (((31 : Int64) * x3) + (v3).toInt64)) + (v5).toInt64)) + (v7).toInt64)) + (v9).toInt64) (x5 + 1))
set_option maxRecDepth 100000 in
set_option maxHeartbeats 4000000 in
theorem UX2_mixed_33_ok {l : Launch} {g : qG} {d n : Nat} {R : Nat → Int64 → Int32 → qP Int64} (hR : ∀ (x0 : Nat) (x3 : Int64) (x5 : Int32), qS l g mX2_mixed (d + 1) n 0 0 0 0 cvL 33 [(0, .ref x0), (3, .long x3), (5, .int x5)] [] (R x0 x3 x5)) {K108 : Nat → Int64 → qP Int64} (hK108 : ∀ (x0 : Nat) (x3 : Int64), qS l g mX2_mixed (d + 1) n 0 0 0 0 cvL 108 [(0, .ref x0), (3, .long x3)] [] (K108 x0 x3)) (x0 : Nat) (x3 : Int64) (x5 : Int32) : qS l g mX2_mixed (d + 1) n 0 0 0 0 cvL 33 [(0, .ref x0), (3, .long x3), (5, .int x5)] [] (UX2_mixed_33 R K108 x0 x3 x5) := by
  unfold UX2_mixed_33
  refine s_iload dX2_mixed_33 rfl ?_
  refine s_aload_n dX2_mixed_35 rfl ?_
  refine s_gI dX2_mixed_36 fX2_43 fun v1 => ?_
  refine s_icmp_ge (tgt := 108) dX2_mixed_39 (by decide) (fun c1 => ?_) (fun c1 => ?_)
  · refine s_locals [0, 1] rfl ?_
    exact hK108 x0 x3
  · refine s_ldc2 dX2_mixed_42 lX2_148 ?_
    refine s_lload_n dX2_mixed_45 rfl ?_
    refine s_lmul dX2_mixed_46 ?_
    refine s_aload_n dX2_mixed_47 rfl ?_
    refine s_gR dX2_mixed_48 fX2_33 fun v2 => ?_
    refine s_iload dX2_mixed_51 rfl ?_
    refine s_aI dX2_mixed_53 fun v3 => ?_
    refine s_i2l dX2_mixed_54 ?_
    refine s_ladd dX2_mixed_55 ?_
    refine s_lstore_n (lv' := [(3, .long (((31 : Int64) * x3) + (v3).toInt64)), (0, .ref x0), (5, .int x5)]) dX2_mixed_56 (by decide) rfl ?_
    refine s_ldc2 dX2_mixed_57 lX2_148 ?_
    refine s_lload_n dX2_mixed_60 rfl ?_
    refine s_lmul dX2_mixed_61 ?_
    refine s_aload_n dX2_mixed_62 rfl ?_
    refine s_gR dX2_mixed_63 fX2_50 fun v4 => ?_
    refine s_iload dX2_mixed_66 rfl ?_
    refine s_aI dX2_mixed_68 fun v5 => ?_
    refine s_i2l dX2_mixed_69 ?_
    refine s_ladd dX2_mixed_70 ?_
    refine s_lstore_n (lv' := [(3, .long (((31 : Int64) * (((31 : Int64) * x3) + (v3).toInt64)) + (v5).toInt64)), (0, .ref x0), (5, .int x5)]) dX2_mixed_71 (by decide) rfl ?_
    refine s_ldc2 dX2_mixed_72 lX2_148 ?_
    refine s_lload_n dX2_mixed_75 rfl ?_
    refine s_lmul dX2_mixed_76 ?_
    refine s_aload_n dX2_mixed_77 rfl ?_
    refine s_gR dX2_mixed_78 fX2_40 fun v6 => ?_
    refine s_iload dX2_mixed_81 rfl ?_
    refine s_aI dX2_mixed_83 fun v7 => ?_
    refine s_i2l dX2_mixed_84 ?_
    refine s_ladd dX2_mixed_85 ?_
    refine s_lstore_n (lv' := [(3, .long (((31 : Int64) * (((31 : Int64) * (((31 : Int64) * x3) + (v3).toInt64)) + (v5).toInt64)) + (v7).toInt64)), (0, .ref x0), (5, .int x5)]) dX2_mixed_86 (by decide) rfl ?_
    refine s_ldc2 dX2_mixed_87 lX2_148 ?_
    refine s_lload_n dX2_mixed_90 rfl ?_
    refine s_lmul dX2_mixed_91 ?_
    refine s_aload_n dX2_mixed_92 rfl ?_
    refine s_gR dX2_mixed_93 fX2_37 fun v8 => ?_
    refine s_iload dX2_mixed_96 rfl ?_
    refine s_aI dX2_mixed_98 fun v9 => ?_
    refine s_i2l dX2_mixed_99 ?_
    refine s_ladd dX2_mixed_100 ?_
    refine s_lstore_n (lv' := [(3, .long (((31 : Int64) * (((31 : Int64) * (((31 : Int64) * (((31 : Int64) * x3) + (v3).toInt64)) + (v5).toInt64)) + (v7).toInt64)) + (v9).toInt64)), (0, .ref x0), (5, .int x5)]) dX2_mixed_101 (by decide) rfl ?_
    refine s_iinc (lv' := [(5, .int (x5 + 1)), (3, .long (((31 : Int64) * (((31 : Int64) * (((31 : Int64) * (((31 : Int64) * x3) + (v3).toInt64)) + (v5).toInt64)) + (v7).toInt64)) + (v9).toInt64)), (0, .ref x0)]) dX2_mixed_102 rfl (by decide) rfl ?_
    refine s_goto (tgt := 33) dX2_mixed_105 (by decide) ?_
    refine s_locals [2, 1, 0] rfl ?_
    exact hR x0 (((31 : Int64) * (((31 : Int64) * (((31 : Int64) * (((31 : Int64) * x3) + (v3).toInt64)) + (v5).toInt64)) + (v7).toInt64)) + (v9).toInt64) (x5 + 1)
def WX2_mixed_33 (K108 : Nat → Int64 → qP Int64) : Nat → Nat → Int64 → Int32 → qP Int64
  | 0 => fun _ _ _ => qfail
  | N + 1 => fun x0 x3 x5 => UX2_mixed_33 (WX2_mixed_33 K108 N) K108 x0 x3 x5
theorem WX2_mixed_33_ok {l : Launch} {g : qG} {d n : Nat} {K108 : Nat → Int64 → qP Int64} (hK108 : ∀ (x0 : Nat) (x3 : Int64), qS l g mX2_mixed (d + 1) n 0 0 0 0 cvL 108 [(0, .ref x0), (3, .long x3)] [] (K108 x0 x3)) : ∀ (N : Nat) (x0 : Nat) (x3 : Int64) (x5 : Int32), qS l g mX2_mixed (d + 1) n 0 0 0 0 cvL 33 [(0, .ref x0), (3, .long x3), (5, .int x5)] [] (WX2_mixed_33 K108 N x0 x3 x5) := by
  intro N
  induction N with
  | zero => intro x0 x3 x5; exact s_fail
  | succ N ih => intro x0 x3 x5; exact UX2_mixed_33_ok ih hK108 x0 x3 x5
def UX2_mixed_111 (R : Nat → Int64 → Int32 → qP Int64) (K158 : Nat → Int64 → qP Int64) (x0 : Nat) (x3 : Int64) (x5 : Int32) : qP Int64 :=
qb (gI 2 x0 5) fun v1 =>
if ((3 : Int32) + v1) ≤ x5 then (
K158 x0 x3) else (
qb (gR 2 x0 3) fun v2 =>
qb (aI v2 x5) fun v3 =>
qb (gR 2 x0 6) fun v4 =>
qb (aI v4 x5) fun v5 =>
R x0 (((31 : Int64) * (((31 : Int64) * x3) + (v3).toInt64)) + (v5).toInt64) (x5 + 1))
set_option maxRecDepth 100000 in
set_option maxHeartbeats 4000000 in
theorem UX2_mixed_111_ok {l : Launch} {g : qG} {d n : Nat} {R : Nat → Int64 → Int32 → qP Int64} (hR : ∀ (x0 : Nat) (x3 : Int64) (x5 : Int32), qS l g mX2_mixed (d + 1) n 0 0 0 0 cvL 111 [(0, .ref x0), (3, .long x3), (5, .int x5)] [] (R x0 x3 x5)) {K158 : Nat → Int64 → qP Int64} (hK158 : ∀ (x0 : Nat) (x3 : Int64), qS l g mX2_mixed (d + 1) n 0 0 0 0 cvL 158 [(0, .ref x0), (3, .long x3)] [] (K158 x0 x3)) (x0 : Nat) (x3 : Int64) (x5 : Int32) : qS l g mX2_mixed (d + 1) n 0 0 0 0 cvL 111 [(0, .ref x0), (3, .long x3), (5, .int x5)] [] (UX2_mixed_111 R K158 x0 x3 x5) := by
  unfold UX2_mixed_111
  refine s_iload dX2_mixed_111 rfl ?_
  refine s_iconst (v := 3) dX2_mixed_113 (by decide) ?_
  refine s_aload_n dX2_mixed_114 rfl ?_
  refine s_gI dX2_mixed_115 fX2_47 fun v1 => ?_
  refine s_iadd dX2_mixed_118 ?_
  refine s_icmp_ge (tgt := 158) dX2_mixed_119 (by decide) (fun c1 => ?_) (fun c1 => ?_)
  · refine s_locals [0, 1] rfl ?_
    exact hK158 x0 x3
  · refine s_ldc2 dX2_mixed_122 lX2_148 ?_
    refine s_lload_n dX2_mixed_125 rfl ?_
    refine s_lmul dX2_mixed_126 ?_
    refine s_aload_n dX2_mixed_127 rfl ?_
    refine s_gR dX2_mixed_128 fX2_40 fun v2 => ?_
    refine s_iload dX2_mixed_131 rfl ?_
    refine s_aI dX2_mixed_133 fun v3 => ?_
    refine s_i2l dX2_mixed_134 ?_
    refine s_ladd dX2_mixed_135 ?_
    refine s_lstore_n (lv' := [(3, .long (((31 : Int64) * x3) + (v3).toInt64)), (0, .ref x0), (5, .int x5)]) dX2_mixed_136 (by decide) rfl ?_
    refine s_ldc2 dX2_mixed_137 lX2_148 ?_
    refine s_lload_n dX2_mixed_140 rfl ?_
    refine s_lmul dX2_mixed_141 ?_
    refine s_aload_n dX2_mixed_142 rfl ?_
    refine s_gR dX2_mixed_143 fX2_50 fun v4 => ?_
    refine s_iload dX2_mixed_146 rfl ?_
    refine s_aI dX2_mixed_148 fun v5 => ?_
    refine s_i2l dX2_mixed_149 ?_
    refine s_ladd dX2_mixed_150 ?_
    refine s_lstore_n (lv' := [(3, .long (((31 : Int64) * (((31 : Int64) * x3) + (v3).toInt64)) + (v5).toInt64)), (0, .ref x0), (5, .int x5)]) dX2_mixed_151 (by decide) rfl ?_
    refine s_iinc (lv' := [(5, .int (x5 + 1)), (3, .long (((31 : Int64) * (((31 : Int64) * x3) + (v3).toInt64)) + (v5).toInt64)), (0, .ref x0)]) dX2_mixed_152 rfl (by decide) rfl ?_
    refine s_goto (tgt := 111) dX2_mixed_155 (by decide) ?_
    refine s_locals [2, 1, 0] rfl ?_
    exact hR x0 (((31 : Int64) * (((31 : Int64) * x3) + (v3).toInt64)) + (v5).toInt64) (x5 + 1)
def WX2_mixed_111 (K158 : Nat → Int64 → qP Int64) : Nat → Nat → Int64 → Int32 → qP Int64
  | 0 => fun _ _ _ => qfail
  | N + 1 => fun x0 x3 x5 => UX2_mixed_111 (WX2_mixed_111 K158 N) K158 x0 x3 x5
theorem WX2_mixed_111_ok {l : Launch} {g : qG} {d n : Nat} {K158 : Nat → Int64 → qP Int64} (hK158 : ∀ (x0 : Nat) (x3 : Int64), qS l g mX2_mixed (d + 1) n 0 0 0 0 cvL 158 [(0, .ref x0), (3, .long x3)] [] (K158 x0 x3)) : ∀ (N : Nat) (x0 : Nat) (x3 : Int64) (x5 : Int32), qS l g mX2_mixed (d + 1) n 0 0 0 0 cvL 111 [(0, .ref x0), (3, .long x3), (5, .int x5)] [] (WX2_mixed_111 K158 N x0 x3 x5) := by
  intro N
  induction N with
  | zero => intro x0 x3 x5; exact s_fail
  | succ N ih => intro x0 x3 x5; exact UX2_mixed_111_ok ih hK158 x0 x3 x5
def UX2_mixed_158 (x0 : Nat) (x3 : Int64) : qP Int64 :=
qb (gR 2 x0 10) fun v1 =>
qb (gR 2 x0 9) fun v2 =>
qb (qcl 0 v2) fun _ => qb (FX0_mixed v2 x3) fun v3 =>
qb (qcl 8 v1) fun _ => qb (FX8_mixed v1 v3) fun v4 =>
qr v4
set_option maxRecDepth 100000 in
set_option maxHeartbeats 4000000 in
theorem UX2_mixed_158_ok {l : Launch} {g : qG} {d n : Nat} (x0 : Nat) (x3 : Int64) : qS l g mX2_mixed (d + 1) n 0 0 0 0 cvL 158 [(0, .ref x0), (3, .long x3)] [] (UX2_mixed_158 x0 x3) := by
  unfold UX2_mixed_158
  refine s_aload_n dX2_mixed_158 rfl ?_
  refine s_gR dX2_mixed_159 fX2_69 fun v1 => ?_
  refine s_aload_n dX2_mixed_162 rfl ?_
  refine s_gR dX2_mixed_163 fX2_62 fun v2 => ?_
  refine s_lload_n dX2_mixed_166 rfl ?_
  refine s_virtL (as := [.long x3]) (rest := [.ref v1]) dX2_mixed_167 vX2_150 (CX0_mixed _ _) (Nat.le_of_ble_eq_true rfl) ⟨Nat.le_refl _, Nat.le_refl _⟩ fun v3 => ?_
  refine s_virtL (as := [.long v3]) (rest := []) dX2_mixed_170 vX2_154 (CX8_mixed _ _) (Nat.le_of_ble_eq_true rfl) ⟨Nat.le_refl _, Nat.le_refl _⟩ fun v4 => ?_
  exact s_lreturn dX2_mixed_173 rfl
def UX2_mixed_108 (x0 : Nat) (x3 : Int64) : qP Int64 :=
WX2_mixed_111 (UX2_mixed_158) 1000000 x0 x3 (3 : Int32)
set_option maxRecDepth 100000 in
set_option maxHeartbeats 4000000 in
theorem UX2_mixed_108_ok {l : Launch} {g : qG} {d n : Nat} (x0 : Nat) (x3 : Int64) : qS l g mX2_mixed (d + 1) n 0 0 0 0 cvL 108 [(0, .ref x0), (3, .long x3)] [] (UX2_mixed_108 x0 x3) := by
  unfold UX2_mixed_108
  refine s_iconst (v := 3) dX2_mixed_108 (by decide) ?_
  refine s_istore (lv' := [(5, .int (3 : Int32)), (0, .ref x0), (3, .long x3)]) dX2_mixed_109 (by decide) rfl ?_
  refine s_locals [1, 2, 0] rfl ?_
  exact WX2_mixed_111_ok (UX2_mixed_158_ok) 1000000 x0 x3 (3 : Int32)
def FX2_mixed (x0 : Nat) (x1 : Int64) : qP Int64 :=
qb (gR 2 x0 6) fun v1 =>
qb (aI v1 (7 : Int32)) fun v2 =>
qb (gR 2 x0 6) fun v3 =>
qb (aI v3 (8 : Int32)) fun v4 =>
WX2_mixed_33 (UX2_mixed_108) 1000000 x0 (((31 : Int64) * (((31 : Int64) * x1) + (v2).toInt64)) + (v4).toInt64) (0 : Int32)
set_option maxRecDepth 100000 in
set_option maxHeartbeats 4000000 in
theorem FX2_mixed_ok {l : Launch} {g : qG} {d n : Nat} (x0 : Nat) (x1 : Int64) : qS l g mX2_mixed (d + 1) n 0 0 0 0 cvL 0 [(0, .ref x0), (1, .long x1)] [] (FX2_mixed x0 x1) := by
  unfold FX2_mixed
  refine s_ldc2 dX2_mixed_0 lX2_148 ?_
  refine s_lload_n dX2_mixed_3 rfl ?_
  refine s_lmul dX2_mixed_4 ?_
  refine s_aload_n dX2_mixed_5 rfl ?_
  refine s_gR dX2_mixed_6 fX2_50 fun v1 => ?_
  refine s_bipush (v := 7) dX2_mixed_9 (by decide) ?_
  refine s_aI dX2_mixed_11 fun v2 => ?_
  refine s_i2l dX2_mixed_12 ?_
  refine s_ladd dX2_mixed_13 ?_
  refine s_lstore_n (lv' := [(3, .long (((31 : Int64) * x1) + (v2).toInt64)), (0, .ref x0), (1, .long x1)]) dX2_mixed_14 (by decide) rfl ?_
  refine s_ldc2 dX2_mixed_15 lX2_148 ?_
  refine s_lload_n dX2_mixed_18 rfl ?_
  refine s_lmul dX2_mixed_19 ?_
  refine s_aload_n dX2_mixed_20 rfl ?_
  refine s_gR dX2_mixed_21 fX2_50 fun v3 => ?_
  refine s_bipush (v := 8) dX2_mixed_24 (by decide) ?_
  refine s_aI dX2_mixed_26 fun v4 => ?_
  refine s_i2l dX2_mixed_27 ?_
  refine s_ladd dX2_mixed_28 ?_
  refine s_lstore_n (lv' := [(3, .long (((31 : Int64) * (((31 : Int64) * x1) + (v2).toInt64)) + (v4).toInt64)), (0, .ref x0), (1, .long x1)]) dX2_mixed_29 (by decide) rfl ?_
  refine s_iconst (v := 0) dX2_mixed_30 (by decide) ?_
  refine s_istore (lv' := [(5, .int (0 : Int32)), (3, .long (((31 : Int64) * (((31 : Int64) * x1) + (v2).toInt64)) + (v4).toInt64)), (0, .ref x0), (1, .long x1)]) dX2_mixed_31 (by decide) rfl ?_
  refine s_locals [2, 1, 0] rfl ?_
  exact WX2_mixed_33_ok (UX2_mixed_108_ok) 1000000 x0 (((31 : Int64) * (((31 : Int64) * x1) + (v2).toInt64)) + (v4).toInt64) (0 : Int32)
theorem CX2_mixed {l : Launch} {g : qG} {d : Nat} (x0 : Nat) (x1 : Int64) : qCt l g mX2_mixed (d + 1) 0 0 cvL [.ref x0, .long x1] (FX2_mixed x0 x1) := s_of pn_X2 (Nat.le_of_ble_eq_true rfl) fun n => FX2_mixed_ok x0 x1

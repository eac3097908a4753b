def FX0_init (x0 : Nat) : qP Unit :=
qb (qnw (.inl (0, 60, fun _ => 0))) fun v1 =>
qb (pV 0 x0 0 (.ref v1)) fun _ =>
qb (pV 0 x0 1 (.int (0 : Int32))) fun _ =>
qb (qnw (.inl (0, 32, fun _ => 0))) fun v2 =>
qb (pV 0 x0 2 (.ref v2)) fun _ =>
qb (qnw (.inl (0, 4, fun _ => 0))) fun v3 =>
qb (pV 0 x0 3 (.ref v3)) fun _ =>
qb (qnw (.inl (0, 4, fun _ => 0))) fun v4 =>
qb (pV 0 x0 4 (.ref v4)) fun _ =>
qb (qnw (.inl (0, 3, fun _ => 0))) fun v5 =>
qb (pV 0 x0 5 (.ref v5)) fun _ =>
qr ()
set_option maxRecDepth 100000 in
set_option maxHeartbeats 4000000 in
theorem FX0_init_ok {l : Launch} {g : qG} {d n : Nat} (x0 : Nat) : qS l g mX0_init (d + 1) n 5 103 0 0 cvV 0 [(0, .ref x0)] [] (FX0_init x0) := by
  unfold FX0_init
  refine s_aload_n dX0_init_0 rfl ?_
  refine s_objinit dX0_init_1 jX0_3 kw_oi kw_oc (Nat.le_of_ble_eq_true rfl) ?_
  refine s_aload_n dX0_init_4 rfl ?_
  refine s_bipush (v := 60) dX0_init_5 (by decide) ?_
  refine s_newarray dX0_init_7 kw_ci (by decide) (by decide) (by decide) (by decide) (by decide) fun v1 => ?_
  refine s_putF dX0_init_9 fX0_11 rfl rfl rfl rfl ?_
  refine s_aload_n dX0_init_12 rfl ?_
  refine s_iconst (v := 0) dX0_init_13 (by decide) ?_
  refine s_put dX0_init_14 fX0_15 rfl rfl ?_
  refine s_aload_n dX0_init_17 rfl ?_
  refine s_bipush (v := 32) dX0_init_18 (by decide) ?_
  refine s_newarray dX0_init_20 kw_ci (by decide) (by decide) (by decide) (by decide) (by decide) fun v2 => ?_
  refine s_putF dX0_init_22 fX0_19 rfl rfl rfl rfl ?_
  refine s_aload_n dX0_init_25 rfl ?_
  refine s_iconst (v := 4) dX0_init_26 (by decide) ?_
  refine s_newarray dX0_init_27 kw_ci (by decide) (by decide) (by decide) (by decide) (by decide) fun v3 => ?_
  refine s_putF dX0_init_29 fX0_22 rfl rfl rfl rfl ?_
  refine s_aload_n dX0_init_32 rfl ?_
  refine s_iconst (v := 4) dX0_init_33 (by decide) ?_
  refine s_newarray dX0_init_34 kw_ci (by decide) (by decide) (by decide) (by decide) (by decide) fun v4 => ?_
  refine s_putF dX0_init_36 fX0_25 rfl rfl rfl rfl ?_
  refine s_aload_n dX0_init_39 rfl ?_
  refine s_iconst (v := 3) dX0_init_40 (by decide) ?_
  refine s_newarray dX0_init_41 kw_ci (by decide) (by decide) (by decide) (by decide) (by decide) fun v5 => ?_
  refine s_putF dX0_init_43 fX0_28 rfl rfl rfl rfl ?_
  exact s_return dX0_init_46 rfl
theorem CX0_init {l : Launch} {g : qG} {d : Nat} (x0 : Nat) : qCt l g mX0_init (d + 1) 5 103 cvV [.ref x0] (FX0_init x0) := s_of pn_X0 (Nat.le_of_ble_eq_true rfl) fun n => FX0_init_ok x0
def FX5_init (x0 : Nat) : qP Unit :=
qr ()
set_option maxRecDepth 100000 in
set_option maxHeartbeats 4000000 in
theorem FX5_init_ok {l : Launch} {g : qG} {d n : Nat} (x0 : Nat) : qS l g mX5_init (d + 1) n 0 0 0 0 cvV 0 [(0, .ref x0)] [] (FX5_init x0) := by
  unfold FX5_init
  refine s_aload_n dX5_init_0 rfl ?_
  refine s_objinit dX5_init_1 jX5_1 kw_oi kw_oc (Nat.le_of_ble_eq_true rfl) ?_
  exact s_return dX5_init_4 rfl
theorem CX5_init {l : Launch} {g : qG} {d : Nat} (x0 : Nat) : qCt l g mX5_init (d + 1) 0 0 cvV [.ref x0] (FX5_init x0) := s_of pn_X5 (Nat.le_of_ble_eq_true rfl) fun n => FX5_init_ok x0
def FX6_init (x0 : Nat) : qP Unit :=
qb (FX5_init x0) fun v1 =>
qr ()
set_option maxRecDepth 100000 in
set_option maxHeartbeats 4000000 in
theorem FX6_init_ok {l : Launch} {g : qG} {d n : Nat} (x0 : Nat) : qS l g mX6_init (d + 2) n 0 0 0 0 cvV 0 [(0, .ref x0)] [] (FX6_init x0) := by
  unfold FX6_init
  refine s_aload_n dX6_init_0 rfl ?_
  refine s_initNV (as := []) (rest := []) dX6_init_1 iX6_1 (CX5_init _) (Nat.le_of_ble_eq_true rfl) ⟨by decide, by decide⟩ fun v1 => ?_
  exact s_return dX6_init_4 rfl
theorem CX6_init {l : Launch} {g : qG} {d : Nat} (x0 : Nat) : qCt l g mX6_init (d + 2) 0 0 cvV [.ref x0] (FX6_init x0) := s_of pn_X6 (Nat.le_of_ble_eq_true rfl) fun n => FX6_init_ok x0
def FX1_init (x0 : Nat) : qP Unit :=
qb (FX6_init x0) fun v1 =>
qr ()
set_option maxRecDepth 100000 in
set_option maxHeartbeats 4000000 in
theorem FX1_init_ok {l : Launch} {g : qG} {d n : Nat} (x0 : Nat) : qS l g mX1_init (d + 3) n 0 0 0 0 cvV 0 [(0, .ref x0)] [] (FX1_init x0) := by
  unfold FX1_init
  refine s_aload_n dX1_init_0 rfl ?_
  refine s_initNV (as := []) (rest := []) dX1_init_1 iX1_1 (CX6_init _) (Nat.le_of_ble_eq_true rfl) ⟨by decide, by decide⟩ fun v1 => ?_
  exact s_return dX1_init_4 rfl
theorem CX1_init {l : Launch} {g : qG} {d : Nat} (x0 : Nat) : qCt l g mX1_init (d + 3) 0 0 cvV [.ref x0] (FX1_init x0) := s_of pn_X1 (Nat.le_of_ble_eq_true rfl) fun n => FX1_init_ok x0
def FX7_init (x0 : Nat) : qP Unit :=
qb (FX5_init x0) fun v1 =>
qr ()
set_option maxRecDepth 100000 in
set_option maxHeartbeats 4000000 in
theorem FX7_init_ok {l : Launch} {g : qG} {d n : Nat} (x0 : Nat) : qS l g mX7_init (d + 2) n 0 0 0 0 cvV 0 [(0, .ref x0)] [] (FX7_init x0) := by
  unfold FX7_init
  refine s_aload_n dX7_init_0 rfl ?_
  refine s_initNV (as := []) (rest := []) dX7_init_1 iX7_1 (CX5_init _) (Nat.le_of_ble_eq_true rfl) ⟨by decide, by decide⟩ fun v1 => ?_
  exact s_return dX7_init_4 rfl
theorem CX7_init {l : Launch} {g : qG} {d : Nat} (x0 : Nat) : qCt l g mX7_init (d + 2) 0 0 cvV [.ref x0] (FX7_init x0) := s_of pn_X7 (Nat.le_of_ble_eq_true rfl) fun n => FX7_init_ok x0
def FX9_init (x0 : Nat) : qP Unit :=
qb (FX7_init x0) fun v1 =>
qr ()
set_option maxRecDepth 100000 in
set_option maxHeartbeats 4000000 in
theorem FX9_init_ok {l : Launch} {g : qG} {d n : Nat} (x0 : Nat) : qS l g mX9_init (d + 3) n 0 0 0 0 cvV 0 [(0, .ref x0)] [] (FX9_init x0) := by
  unfold FX9_init
  refine s_aload_n dX9_init_0 rfl ?_
  refine s_initNV (as := []) (rest := []) dX9_init_1 iX9_1 (CX7_init _) (Nat.le_of_ble_eq_true rfl) ⟨by decide, by decide⟩ fun v1 => ?_
  exact s_return dX9_init_4 rfl
theorem CX9_init {l : Launch} {g : qG} {d : Nat} (x0 : Nat) : qCt l g mX9_init (d + 3) 0 0 cvV [.ref x0] (FX9_init x0) := s_of pn_X9 (Nat.le_of_ble_eq_true rfl) fun n => FX9_init_ok x0
def FX10_init (x0 : Nat) : qP Unit :=
qb (FX6_init x0) fun v1 =>
qr ()
set_option maxRecDepth 100000 in
set_option maxHeartbeats 4000000 in
theorem FX10_init_ok {l : Launch} {g : qG} {d n : Nat} (x0 : Nat) : qS l g mX10_init (d + 3) n 0 0 0 0 cvV 0 [(0, .ref x0)] [] (FX10_init x0) := by
  unfold FX10_init
  refine s_aload_n dX10_init_0 rfl ?_
  refine s_initNV (as := []) (rest := []) dX10_init_1 iX10_1 (CX6_init _) (Nat.le_of_ble_eq_true rfl) ⟨by decide, by decide⟩ fun v1 => ?_
  exact s_return dX10_init_4 rfl
theorem CX10_init {l : Launch} {g : qG} {d : Nat} (x0 : Nat) : qCt l g mX10_init (d + 3) 0 0 cvV [.ref x0] (FX10_init x0) := s_of pn_X10 (Nat.le_of_ble_eq_true rfl) fun n => FX10_init_ok x0
def FX8_init (x0 : Nat) : qP Unit :=
qb (qnw (.inl (0, 8, fun _ => 0))) fun v1 =>
qb (pV 8 x0 0 (.ref v1)) fun _ =>
qb (qnw (.inl (0, 2, fun _ => 0))) fun v2 =>
qb (pV 8 x0 1 (.ref v2)) fun _ =>
qb (qnw (.inl (0, 256, fun _ => 0))) fun v3 =>
qb (pV 8 x0 2 (.ref v3)) fun _ =>
qr ()
set_option maxRecDepth 100000 in
set_option maxHeartbeats 4000000 in
theorem FX8_init_ok {l : Launch} {g : qG} {d n : Nat} (x0 : Nat) : qS l g mX8_init (d + 1) n 3 266 0 0 cvV 0 [(0, .ref x0)] [] (FX8_init x0) := by
  unfold FX8_init
  refine s_aload_n dX8_init_0 rfl ?_
  refine s_objinit dX8_init_1 jX8_3 kw_oi kw_oc (Nat.le_of_ble_eq_true rfl) ?_
  refine s_aload_n dX8_init_4 rfl ?_
  refine s_bipush (v := 8) dX8_init_5 (by decide) ?_
  refine s_newarray dX8_init_7 kw_ci (by decide) (by decide) (by decide) (by decide) (by decide) fun v1 => ?_
  refine s_putF dX8_init_9 fX8_11 rfl rfl rfl rfl ?_
  refine s_aload_n dX8_init_12 rfl ?_
  refine s_iconst (v := 2) dX8_init_13 (by decide) ?_
  refine s_newarray dX8_init_14 kw_ci (by decide) (by decide) (by decide) (by decide) (by decide) fun v2 => ?_
  refine s_putF dX8_init_16 fX8_15 rfl rfl rfl rfl ?_
  refine s_aload_n dX8_init_19 rfl ?_
  refine s_sipush (v := 256) dX8_init_20 (by decide) ?_
  refine s_newarray dX8_init_23 kw_ci (by decide) (by decide) (by decide) (by decide) (by decide) fun v3 => ?_
  refine s_putF dX8_init_25 fX8_18 rfl rfl rfl rfl ?_
  exact s_return dX8_init_28 rfl
theorem CX8_init {l : Launch} {g : qG} {d : Nat} (x0 : Nat) : qCt l g mX8_init (d + 1) 3 266 cvV [.ref x0] (FX8_init x0) := s_of pn_X8 (Nat.le_of_ble_eq_true rfl) fun n => FX8_init_ok x0
def FX2_init (x0 : Nat) : qP Unit :=
qb (qnw (.inr (.inl (0, 6, fun _ => none)))) fun v1 =>
qb (qnw (.inr (.inr (5, [])))) fun v2 =>
qb (FX5_init v2) fun v3 =>
qb (sQ 0 v1 (0 : Int32) v2) fun _ =>
qb (qnw (.inr (.inr (7, [])))) fun v4 =>
qb (FX7_init v4) fun v5 =>
qb (sQ 0 v1 (1 : Int32) v4) fun _ =>
qb (qnw (.inr (.inr (6, [])))) fun v6 =>
qb (FX6_init v6) fun v7 =>
qb (sQ 0 v1 (2 : Int32) v6) fun _ =>
qb (qnw (.inr (.inr (1, [])))) fun v8 =>
qb (FX1_init v8) fun v9 =>
qb (sQ 0 v1 (3 : Int32) v8) fun _ =>
qb (qnw (.inr (.inr (9, [])))) fun v10 =>
qb (FX9_init v10) fun v11 =>
qb (sQ 0 v1 (4 : Int32) v10) fun _ =>
qb (qnw (.inr (.inr (10, [])))) fun v12 =>
qb (FX10_init v12) fun v13 =>
qb (sQ 0 v1 (5 : Int32) v12) fun _ =>
qb (pV 2 x0 0 (.ref v1)) fun _ =>
qb (qnw (.inl (0, 3, fun _ => 0))) fun v14 =>
qb (pV 2 x0 1 (.ref v14)) fun _ =>
qb (qnw (.inl (0, 3, fun _ => 0))) fun v15 =>
qb (pV 2 x0 2 (.ref v15)) fun _ =>
qb (qnw (.inl (0, 7, fun _ => 0))) fun v16 =>
qb (pV 2 x0 3 (.ref v16)) fun _ =>
qb (pV 2 x0 4 (.int (0 : Int32))) fun _ =>
qb (pV 2 x0 5 (.int (0 : Int32))) fun _ =>
qb (qnw (.inl (0, 10, fun _ => 0))) fun v17 =>
qb (pV 2 x0 6 (.ref v17)) fun _ =>
qb (qnw (.inl (0, 120, fun _ => 0))) fun v18 =>
qb (pV 2 x0 7 (.ref v18)) fun _ =>
qb (pV 2 x0 8 (.int (0 : Int32))) fun _ =>
qb (qnw (.inr (.inr (0, [.null, .int 0, .null, .null, .null, .null])))) fun v19 =>
qb (FX0_init v19) fun v20 =>
qb (pV 2 x0 9 (.ref v19)) fun _ =>
qb (qnw (.inr (.inr (8, [.null, .null, .null])))) fun v21 =>
qb (FX8_init v21) fun v22 =>
qb (pV 2 x0 10 (.ref v21)) fun _ =>
qr ()
set_option maxRecDepth 100000 in
set_option maxHeartbeats 4000000 in
theorem FX2_init_ok {l : Launch} {g : qG} {d n : Nat} (x0 : Nat) : qS l g mX2_init (d + 4) n 22 527 0 0 cvV 0 [(0, .ref x0)] [] (FX2_init x0) := by
  unfold FX2_init
  refine s_aload_n dX2_init_0 rfl ?_
  refine s_objinit dX2_init_1 jX2_3 kw_oi kw_oc (Nat.le_of_ble_eq_true rfl) ?_
  refine s_aload_n dX2_init_4 rfl ?_
  refine s_bipush (v := 6) dX2_init_5 (by decide) ?_
  refine s_anewarray dX2_init_7 (Or.inl ⟨rfl, rfl⟩) eX2_9 kw_ok (by decide) (by decide) (by decide) (by decide) (by decide) fun v1 => ?_
  refine s_dup dX2_init_10 rfl ?_
  refine s_iconst (v := 0) dX2_init_11 (by decide) ?_
  refine s_new dX2_init_12 nX2_9 (by decide) (by decide) fun v2 => ?_
  refine s_dup dX2_init_15 rfl ?_
  refine s_initNV (as := []) (rest := [.ref v2, .int (0 : Int32), .ref v1, .ref v1, .ref x0]) dX2_init_16 iX2_11 (CX5_init _) (Nat.le_of_ble_eq_true rfl) ⟨by decide, by decide⟩ fun v3 => ?_
  refine s_aastore kw_casts dX2_init_19 ?_
  refine s_dup dX2_init_20 rfl ?_
  refine s_iconst (v := 1) dX2_init_21 (by decide) ?_
  refine s_new dX2_init_22 nX2_12 (by decide) (by decide) fun v4 => ?_
  refine s_dup dX2_init_25 rfl ?_
  refine s_initNV (as := []) (rest := [.ref v4, .int (1 : Int32), .ref v1, .ref v1, .ref x0]) dX2_init_26 iX2_14 (CX7_init _) (Nat.le_of_ble_eq_true rfl) ⟨by decide, by decide⟩ fun v5 => ?_
  refine s_aastore kw_casts dX2_init_29 ?_
  refine s_dup dX2_init_30 rfl ?_
  refine s_iconst (v := 2) dX2_init_31 (by decide) ?_
  refine s_new dX2_init_32 nX2_15 (by decide) (by decide) fun v6 => ?_
  refine s_dup dX2_init_35 rfl ?_
  refine s_initNV (as := []) (rest := [.ref v6, .int (2 : Int32), .ref v1, .ref v1, .ref x0]) dX2_init_36 iX2_17 (CX6_init _) (Nat.le_of_ble_eq_true rfl) ⟨by decide, by decide⟩ fun v7 => ?_
  refine s_aastore kw_casts dX2_init_39 ?_
  refine s_dup dX2_init_40 rfl ?_
  refine s_iconst (v := 3) dX2_init_41 (by decide) ?_
  refine s_new dX2_init_42 nX2_18 (by decide) (by decide) fun v8 => ?_
  refine s_dup dX2_init_45 rfl ?_
  refine s_initNV (as := []) (rest := [.ref v8, .int (3 : Int32), .ref v1, .ref v1, .ref x0]) dX2_init_46 iX2_20 (CX1_init _) (Nat.le_of_ble_eq_true rfl) ⟨by decide, by decide⟩ fun v9 => ?_
  refine s_aastore kw_casts dX2_init_49 ?_
  refine s_dup dX2_init_50 rfl ?_
  refine s_iconst (v := 4) dX2_init_51 (by decide) ?_
  refine s_new dX2_init_52 nX2_21 (by decide) (by decide) fun v10 => ?_
  refine s_dup dX2_init_55 rfl ?_
  refine s_initNV (as := []) (rest := [.ref v10, .int (4 : Int32), .ref v1, .ref v1, .ref x0]) dX2_init_56 iX2_23 (CX9_init _) (Nat.le_of_ble_eq_true rfl) ⟨by decide, by decide⟩ fun v11 => ?_
  refine s_aastore kw_casts dX2_init_59 ?_
  refine s_dup dX2_init_60 rfl ?_
  refine s_iconst (v := 5) dX2_init_61 (by decide) ?_
  refine s_new dX2_init_62 nX2_24 (by decide) (by decide) fun v12 => ?_
  refine s_dup dX2_init_65 rfl ?_
  refine s_initNV (as := []) (rest := [.ref v12, .int (5 : Int32), .ref v1, .ref v1, .ref x0]) dX2_init_66 iX2_26 (CX10_init _) (Nat.le_of_ble_eq_true rfl) ⟨by decide, by decide⟩ fun v13 => ?_
  refine s_aastore kw_casts dX2_init_69 ?_
  refine s_putF dX2_init_70 fX2_27 rfl rfl rfl rfl ?_
  refine s_aload_n dX2_init_73 rfl ?_
  refine s_iconst (v := 3) dX2_init_74 (by decide) ?_
  refine s_newarray dX2_init_75 kw_ci (by decide) (by decide) (by decide) (by decide) (by decide) fun v14 => ?_
  refine s_putF dX2_init_77 fX2_33 rfl rfl rfl rfl ?_
  refine s_aload_n dX2_init_80 rfl ?_
  refine s_iconst (v := 3) dX2_init_81 (by decide) ?_
  refine s_newarray dX2_init_82 kw_ci (by decide) (by decide) (by decide) (by decide) (by decide) fun v15 => ?_
  refine s_putF dX2_init_84 fX2_37 rfl rfl rfl rfl ?_
  refine s_aload_n dX2_init_87 rfl ?_
  refine s_bipush (v := 7) dX2_init_88 (by decide) ?_
  refine s_newarray dX2_init_90 kw_ci (by decide) (by decide) (by decide) (by decide) (by decide) fun v16 => ?_
  refine s_putF dX2_init_92 fX2_40 rfl rfl rfl rfl ?_
  refine s_aload_n dX2_init_95 rfl ?_
  refine s_iconst (v := 0) dX2_init_96 (by decide) ?_
  refine s_put dX2_init_97 fX2_43 rfl rfl ?_
  refine s_aload_n dX2_init_100 rfl ?_
  refine s_iconst (v := 0) dX2_init_101 (by decide) ?_
  refine s_put dX2_init_102 fX2_47 rfl rfl ?_
  refine s_aload_n dX2_init_105 rfl ?_
  refine s_bipush (v := 10) dX2_init_106 (by decide) ?_
  refine s_newarray dX2_init_108 kw_ci (by decide) (by decide) (by decide) (by decide) (by decide) fun v17 => ?_
  refine s_putF dX2_init_110 fX2_50 rfl rfl rfl rfl ?_
  refine s_aload_n dX2_init_113 rfl ?_
  refine s_bipush (v := 120) dX2_init_114 (by decide) ?_
  refine s_newarray dX2_init_116 kw_ci (by decide) (by decide) (by decide) (by decide) (by decide) fun v18 => ?_
  refine s_putF dX2_init_118 fX2_53 rfl rfl rfl rfl ?_
  refine s_aload_n dX2_init_121 rfl ?_
  refine s_iconst (v := 0) dX2_init_122 (by decide) ?_
  refine s_put dX2_init_123 fX2_56 rfl rfl ?_
  refine s_aload_n dX2_init_126 rfl ?_
  refine s_new dX2_init_127 nX2_59 (by decide) (by decide) fun v19 => ?_
  refine s_dup dX2_init_130 rfl ?_
  refine s_initNV (as := []) (rest := [.ref v19, .ref x0]) dX2_init_131 iX2_61 (CX0_init _) (Nat.le_of_ble_eq_true rfl) ⟨by decide, by decide⟩ fun v20 => ?_
  refine s_putF dX2_init_134 fX2_62 rfl rfl rfl rfl ?_
  refine s_aload_n dX2_init_137 rfl ?_
  refine s_new dX2_init_138 nX2_66 (by decide) (by decide) fun v21 => ?_
  refine s_dup dX2_init_141 rfl ?_
  refine s_initNV (as := []) (rest := [.ref v21, .ref x0]) dX2_init_142 iX2_68 (CX8_init _) (Nat.le_of_ble_eq_true rfl) ⟨by decide, by decide⟩ fun v22 => ?_
  refine s_putF dX2_init_145 fX2_69 rfl rfl rfl rfl ?_
  exact s_return dX2_init_148 rfl
theorem CX2_init {l : Launch} {g : qG} {d : Nat} (x0 : Nat) : qCt l g mX2_init (d + 4) 22 527 cvV [.ref x0] (FX2_init x0) := s_of pn_X2 (Nat.le_of_ble_eq_true rfl) fun n => FX2_init_ok x0
def FX3_init (x0 : Nat) : qP Unit :=
qb (qnw (.inl (0, 200, fun _ => 0))) fun v1 =>
qb (pV 3 x0 0 (.ref v1)) fun _ =>
qb (pV 3 x0 1 (.int (0 : Int32))) fun _ =>
qb (pV 3 x0 2 (.int (0 : Int32))) fun _ =>
qb (pV 3 x0 3 (.int (0 : Int32))) fun _ =>
qb (pV 3 x0 4 (.int (0 : Int32))) fun _ =>
qb (pV 3 x0 5 (.int (0 : Int32))) fun _ =>
qb (pV 3 x0 6 (.int (-1 : Int32))) fun _ =>
qb (pV 3 x0 7 (.int (0 : Int32))) fun _ =>
qb (pV 3 x0 8 (.int (0 : Int32))) fun _ =>
qb (pV 3 x0 9 (.int (0 : Int32))) fun _ =>
qb (pV 3 x0 10 (.int (0 : Int32))) fun _ =>
qb (pV 3 x0 11 (.int (0 : Int32))) fun _ =>
qr ()
set_option maxRecDepth 100000 in
set_option maxHeartbeats 4000000 in
theorem FX3_init_ok {l : Launch} {g : qG} {d n : Nat} (x0 : Nat) : qS l g mX3_init (d + 1) n 1 200 0 0 cvV 0 [(0, .ref x0)] [] (FX3_init x0) := by
  unfold FX3_init
  refine s_aload_n dX3_init_0 rfl ?_
  refine s_objinit dX3_init_1 jX3_3 kw_oi kw_oc (Nat.le_of_ble_eq_true rfl) ?_
  refine s_aload_n dX3_init_4 rfl ?_
  refine s_sipush (v := 200) dX3_init_5 (by decide) ?_
  refine s_newarray dX3_init_8 kw_ci (by decide) (by decide) (by decide) (by decide) (by decide) fun v1 => ?_
  refine s_putF dX3_init_10 fX3_11 rfl rfl rfl rfl ?_
  refine s_aload_n dX3_init_13 rfl ?_
  refine s_iconst (v := 0) dX3_init_14 (by decide) ?_
  refine s_put dX3_init_15 fX3_15 rfl rfl ?_
  refine s_aload_n dX3_init_18 rfl ?_
  refine s_iconst (v := 0) dX3_init_19 (by decide) ?_
  refine s_put dX3_init_20 fX3_19 rfl rfl ?_
  refine s_aload_n dX3_init_23 rfl ?_
  refine s_iconst (v := 0) dX3_init_24 (by decide) ?_
  refine s_put dX3_init_25 fX3_22 rfl rfl ?_
  refine s_aload_n dX3_init_28 rfl ?_
  refine s_iconst (v := 0) dX3_init_29 (by decide) ?_
  refine s_put dX3_init_30 fX3_25 rfl rfl ?_
  refine s_aload_n dX3_init_33 rfl ?_
  refine s_iconst (v := 0) dX3_init_34 (by decide) ?_
  refine s_put dX3_init_35 fX3_28 rfl rfl ?_
  refine s_aload_n dX3_init_38 rfl ?_
  refine s_iconst (v := -1) dX3_init_39 (by decide) ?_
  refine s_put dX3_init_40 fX3_31 rfl rfl ?_
  refine s_aload_n dX3_init_43 rfl ?_
  refine s_iconst (v := 0) dX3_init_44 (by decide) ?_
  refine s_put dX3_init_45 fX3_34 rfl rfl ?_
  refine s_aload_n dX3_init_48 rfl ?_
  refine s_iconst (v := 0) dX3_init_49 (by decide) ?_
  refine s_put dX3_init_50 fX3_37 rfl rfl ?_
  refine s_aload_n dX3_init_53 rfl ?_
  refine s_iconst (v := 0) dX3_init_54 (by decide) ?_
  refine s_put dX3_init_55 fX3_40 rfl rfl ?_
  refine s_aload_n dX3_init_58 rfl ?_
  refine s_iconst (v := 0) dX3_init_59 (by decide) ?_
  refine s_put dX3_init_60 fX3_43 rfl rfl ?_
  refine s_aload_n dX3_init_63 rfl ?_
  refine s_iconst (v := 0) dX3_init_64 (by decide) ?_
  refine s_put dX3_init_65 fX3_46 rfl rfl ?_
  exact s_return dX3_init_68 rfl
theorem CX3_init {l : Launch} {g : qG} {d : Nat} (x0 : Nat) : qCt l g mX3_init (d + 1) 1 200 cvV [.ref x0] (FX3_init x0) := s_of pn_X3 (Nat.le_of_ble_eq_true rfl) fun n => FX3_init_ok x0
def FX4_init (x0 : Nat) : qP Unit :=
qb (qng 6 10) fun v1 =>
qb (pV 4 x0 0 (.ref v1)) fun _ =>
qb (qnw (.inl (0, 5, fun _ => 0))) fun v2 =>
qb (pV 4 x0 1 (.ref v2)) fun _ =>
qb (qnw (.inl (0, 5, fun _ => 0))) fun v3 =>
qb (pV 4 x0 2 (.ref v3)) fun _ =>
qb (qnw (.inl (0, 4, fun _ => 0))) fun v4 =>
qb (pV 4 x0 3 (.ref v4)) fun _ =>
qb (pV 4 x0 4 (.int (0 : Int32))) fun _ =>
qb (pV 4 x0 5 (.int (0 : Int32))) fun _ =>
qb (pV 4 x0 6 (.int (-1 : Int32))) fun _ =>
qb (pV 4 x0 7 (.int (0 : Int32))) fun _ =>
qb (pV 4 x0 8 (.int (0 : Int32))) fun _ =>
qb (pV 4 x0 9 (.int (0 : Int32))) fun _ =>
qb (pV 4 x0 10 (.int (0 : Int32))) fun _ =>
qr ()
set_option maxRecDepth 100000 in
set_option maxHeartbeats 4000000 in
theorem FX4_init_ok {l : Launch} {g : qG} {d n : Nat} (x0 : Nat) : qS l g mX4_init (d + 1) n 10 80 0 0 cvV 0 [(0, .ref x0)] [] (FX4_init x0) := by
  unfold FX4_init
  refine s_aload_n dX4_init_0 rfl ?_
  refine s_objinit dX4_init_1 jX4_3 kw_oi kw_oc (Nat.le_of_ble_eq_true rfl) ?_
  refine s_aload_n dX4_init_4 rfl ?_
  refine s_bipush (v := 6) dX4_init_5 (by decide) ?_
  refine s_bipush (v := 10) dX4_init_7 (by decide) ?_
  refine s_mna dX4_init_9 nX4_11 kw_oo kw_ci (by decide) (by decide) (by decide) (by decide) (by decide) (by decide) (by decide) (by decide) fun v1 => ?_
  refine s_putF dX4_init_13 fX4_13 rfl rfl rfl rfl ?_
  refine s_aload_n dX4_init_16 rfl ?_
  refine s_iconst (v := 5) dX4_init_17 (by decide) ?_
  refine s_newarray dX4_init_18 kw_ci (by decide) (by decide) (by decide) (by decide) (by decide) fun v2 => ?_
  refine s_putF dX4_init_20 fX4_18 rfl rfl rfl rfl ?_
  refine s_aload_n dX4_init_23 rfl ?_
  refine s_iconst (v := 5) dX4_init_24 (by decide) ?_
  refine s_newarray dX4_init_25 kw_ci (by decide) (by decide) (by decide) (by decide) (by decide) fun v3 => ?_
  refine s_putF dX4_init_27 fX4_22 rfl rfl rfl rfl ?_
  refine s_aload_n dX4_init_30 rfl ?_
  refine s_iconst (v := 4) dX4_init_31 (by decide) ?_
  refine s_newarray dX4_init_32 kw_ci (by decide) (by decide) (by decide) (by decide) (by decide) fun v4 => ?_
  refine s_putF dX4_init_34 fX4_25 rfl rfl rfl rfl ?_
  refine s_aload_n dX4_init_37 rfl ?_
  refine s_iconst (v := 0) dX4_init_38 (by decide) ?_
  refine s_put dX4_init_39 fX4_28 rfl rfl ?_
  refine s_aload_n dX4_init_42 rfl ?_
  refine s_iconst (v := 0) dX4_init_43 (by decide) ?_
  refine s_put dX4_init_44 fX4_32 rfl rfl ?_
  refine s_aload_n dX4_init_47 rfl ?_
  refine s_iconst (v := -1) dX4_init_48 (by decide) ?_
  refine s_put dX4_init_49 fX4_35 rfl rfl ?_
  refine s_aload_n dX4_init_52 rfl ?_
  refine s_iconst (v := 0) dX4_init_53 (by decide) ?_
  refine s_put dX4_init_54 fX4_38 rfl rfl ?_
  refine s_aload_n dX4_init_57 rfl ?_
  refine s_iconst (v := 0) dX4_init_58 (by decide) ?_
  refine s_put dX4_init_59 fX4_41 (by decide) (by decide) ?_
  refine s_aload_n dX4_init_62 rfl ?_
  refine s_iconst (v := 0) dX4_init_63 (by decide) ?_
  refine s_put dX4_init_64 fX4_45 rfl rfl ?_
  refine s_aload_n dX4_init_67 rfl ?_
  refine s_iconst (v := 0) dX4_init_68 (by decide) ?_
  refine s_put dX4_init_69 fX4_48 rfl rfl ?_
  exact s_return dX4_init_72 rfl
theorem CX4_init {l : Launch} {g : qG} {d : Nat} (x0 : Nat) : qCt l g mX4_init (d + 1) 10 80 cvV [.ref x0] (FX4_init x0) := s_of pn_X4 (Nat.le_of_ble_eq_true rfl) fun n => FX4_init_ok x0
def FX11_init (x0 : Nat) : qP Unit :=
qb (qnw (.inr (.inr (2, [.null, .null, .null, .null, .int 0, .int 0, .null, .null, .int 0, .null, .null])))) fun v1 =>
qb (FX2_init v1) fun v2 =>
qb (pV 11 x0 0 (.ref v1)) fun _ =>
qb (qnw (.inr (.inr (2, [.null, .null, .null, .null, .int 0, .int 0, .null, .null, .int 0, .null, .null])))) fun v3 =>
qb (FX2_init v3) fun v4 =>
qb (pV 11 x0 1 (.ref v3)) fun _ =>
qb (qnw (.inr (.inl (1, 2, fun _ => none)))) fun v5 =>
qb (pV 11 x0 2 (.ref v5)) fun _ =>
qb (qnw (.inr (.inr (4, [.null, .null, .null, .null, .int 0, .int 0, .int 0, .int 0, .int 0, .int 0, .int 0])))) fun v6 =>
qb (FX4_init v6) fun v7 =>
qb (pV 11 x0 3 (.ref v6)) fun _ =>
qb (qnw (.inr (.inr (3, [.null, .int 0, .int 0, .int 0, .int 0, .int 0, .int 0, .int 0, .int 0, .int 0, .int 0, .int 0])))) fun v8 =>
qb (FX3_init v8) fun v9 =>
qb (pV 11 x0 4 (.ref v8)) fun _ =>
qb (pV 11 x0 5 (.long (0 : Int64))) fun _ =>
qb (pV 11 x0 6 (.long (1 : Int64))) fun _ =>
qb (pV 11 x0 7 (.int (0 : Int32))) fun _ =>
qb (pV 11 x0 8 (.int (0 : Int32))) fun _ =>
qb (pV 11 x0 9 (.int (0 : Int32))) fun _ =>
qr ()
set_option maxRecDepth 100000 in
set_option maxHeartbeats 4000000 in
theorem FX11_init_ok {l : Launch} {g : qG} {d n : Nat} (x0 : Nat) : qS l g mX11_init (d + 5) n 60 1381 0 0 cvV 0 [(0, .ref x0)] [] (FX11_init x0) := by
  unfold FX11_init
  refine s_aload_n dX11_init_0 rfl ?_
  refine s_objinit dX11_init_1 jX11_1 kw_oi kw_oc (Nat.le_of_ble_eq_true rfl) ?_
  refine s_aload_n dX11_init_4 rfl ?_
  refine s_new dX11_init_5 nX11_7 (by decide) (by decide) fun v1 => ?_
  refine s_dup dX11_init_8 rfl ?_
  refine s_initNV (as := []) (rest := [.ref v1, .ref x0]) dX11_init_9 iX11_9 (CX2_init _) (Nat.le_of_ble_eq_true rfl) ⟨by decide, by decide⟩ fun v2 => ?_
  refine s_putF dX11_init_12 fX11_10 rfl rfl rfl rfl ?_
  refine s_aload_n dX11_init_15 rfl ?_
  refine s_new dX11_init_16 nX11_7 (by decide) (by decide) fun v3 => ?_
  refine s_dup dX11_init_19 rfl ?_
  refine s_initNV (as := []) (rest := [.ref v3, .ref x0]) dX11_init_20 iX11_9 (CX2_init _) (Nat.le_of_ble_eq_true rfl) ⟨by decide, by decide⟩ fun v4 => ?_
  refine s_putF dX11_init_23 fX11_16 rfl rfl rfl rfl ?_
  refine s_aload_n dX11_init_26 rfl ?_
  refine s_iconst (v := 2) dX11_init_27 (by decide) ?_
  refine s_anewarray dX11_init_28 (Or.inr ⟨rfl, rfl⟩) eX11_7 kw_ol (by decide) (by decide) (by decide) (by decide) (by decide) fun v5 => ?_
  refine s_putF dX11_init_31 fX11_19 rfl rfl rfl rfl ?_
  refine s_aload_n dX11_init_34 rfl ?_
  refine s_new dX11_init_35 nX11_23 (by decide) (by decide) fun v6 => ?_
  refine s_dup dX11_init_38 rfl ?_
  refine s_initNV (as := []) (rest := [.ref v6, .ref x0]) dX11_init_39 iX11_25 (CX4_init _) (Nat.le_of_ble_eq_true rfl) ⟨by decide, by decide⟩ fun v7 => ?_
  refine s_putF dX11_init_42 fX11_26 rfl rfl rfl rfl ?_
  refine s_aload_n dX11_init_45 rfl ?_
  refine s_new dX11_init_46 nX11_30 (by decide) (by decide) fun v8 => ?_
  refine s_dup dX11_init_49 rfl ?_
  refine s_initNV (as := []) (rest := [.ref v8, .ref x0]) dX11_init_50 iX11_32 (CX3_init _) (Nat.le_of_ble_eq_true rfl) ⟨by decide, by decide⟩ fun v9 => ?_
  refine s_putF dX11_init_53 fX11_33 rfl rfl rfl rfl ?_
  refine s_aload_n dX11_init_56 rfl ?_
  refine s_lconst (v := 0) dX11_init_57 (by decide) ?_
  refine s_put dX11_init_58 fX11_37 rfl rfl ?_
  refine s_aload_n dX11_init_61 rfl ?_
  refine s_lconst (v := 1) dX11_init_62 (by decide) ?_
  refine s_put dX11_init_63 fX11_41 rfl rfl ?_
  refine s_aload_n dX11_init_66 rfl ?_
  refine s_iconst (v := 0) dX11_init_67 (by decide) ?_
  refine s_put dX11_init_68 fX11_44 rfl rfl ?_
  refine s_aload_n dX11_init_71 rfl ?_
  refine s_iconst (v := 0) dX11_init_72 (by decide) ?_
  refine s_put dX11_init_73 fX11_48 rfl rfl ?_
  refine s_aload_n dX11_init_76 rfl ?_
  refine s_iconst (v := 0) dX11_init_77 (by decide) ?_
  refine s_put dX11_init_78 fX11_51 rfl rfl ?_
  exact s_return dX11_init_81 rfl
theorem CX11_init {l : Launch} {g : qG} {d : Nat} (x0 : Nat) : qCt l g mX11_init (d + 5) 60 1381 cvV [.ref x0] (FX11_init x0) := s_of pn_X11 (Nat.le_of_ble_eq_true rfl) fun n => FX11_init_ok x0
def FX12_init (x0 : Nat) : qP Unit :=
qb (qnw (.inl (0, 253, fun _ => 0))) fun v1 =>
qb (pV 12 x0 0 (.ref v1)) fun _ =>
qb (qnw (.inl (0, 506, fun _ => 0))) fun v2 =>
qb (pV 12 x0 1 (.ref v2)) fun _ =>
qb (qnw (.inl (1, 2, fun _ => 0))) fun v3 =>
qb (pV 12 x0 2 (.ref v3)) fun _ =>
qb (qnw (.inl (0, 253, fun _ => 0))) fun v4 =>
qb (pV 12 x0 3 (.ref v4)) fun _ =>
qb (qnw (.inl (0, 3, fun _ => 0))) fun v5 =>
qb (pV 12 x0 4 (.ref v5)) fun _ =>
qb (qnw (.inl (0, 10, fun _ => 0))) fun v6 =>
qb (pV 12 x0 8 (.ref v6)) fun _ =>
qb (qnw (.inl (0, 5, fun _ => 0))) fun v7 =>
qb (pV 12 x0 9 (.ref v7)) fun _ =>
qb (qnw (.inl (0, 5, fun _ => 0))) fun v8 =>
qb (pV 12 x0 10 (.ref v8)) fun _ =>
qb (qnw (.inl (0, 3, fun _ => 0))) fun v9 =>
qb (pV 12 x0 11 (.ref v9)) fun _ =>
qb (qnw (.inl (0, 512, fun _ => 0))) fun v10 =>
qb (pV 12 x0 12 (.ref v10)) fun _ =>
qb (qnw (.inl (0, 200, fun _ => 0))) fun v11 =>
qb (pV 12 x0 13 (.ref v11)) fun _ =>
qb (qnw (.inl (0, 250, fun _ => 0))) fun v12 =>
qb (pV 12 x0 21 (.ref v12)) fun _ =>
qb (pV 12 x0 7 (.long (1 : Int64))) fun _ =>
qr ()
set_option maxRecDepth 100000 in
set_option maxHeartbeats 4000000 in
theorem FX12_init_ok {l : Launch} {g : qG} {d n : Nat} (x0 : Nat) : qS l g mX12_init (d + 1) n 12 2002 0 0 cvV 0 [(0, .ref x0)] [] (FX12_init x0) := by
  unfold FX12_init
  refine s_aload_n dX12_init_0 rfl ?_
  refine s_objinit dX12_init_1 jX12_1 kw_oi kw_oc (Nat.le_of_ble_eq_true rfl) ?_
  refine s_aload_n dX12_init_4 rfl ?_
  refine s_sipush (v := 253) dX12_init_5 (by decide) ?_
  refine s_newarray dX12_init_8 kw_ci (by decide) (by decide) (by decide) (by decide) (by decide) fun v1 => ?_
  refine s_putF dX12_init_10 fX12_7 rfl rfl rfl rfl ?_
  refine s_aload_n dX12_init_13 rfl ?_
  refine s_sipush (v := 506) dX12_init_14 (by decide) ?_
  refine s_newarray dX12_init_17 kw_ci (by decide) (by decide) (by decide) (by decide) (by decide) fun v2 => ?_
  refine s_putF dX12_init_19 fX12_13 rfl rfl rfl rfl ?_
  refine s_aload_n dX12_init_22 rfl ?_
  refine s_iconst (v := 2) dX12_init_23 (by decide) ?_
  refine s_newarrayZ dX12_init_24 kw_cz (by decide) (by decide) (by decide) (by decide) (by decide) fun v3 => ?_
  refine s_putF dX12_init_26 fX12_16 rfl rfl rfl rfl ?_
  refine s_aload_n dX12_init_29 rfl ?_
  refine s_sipush (v := 253) dX12_init_30 (by decide) ?_
  refine s_newarray dX12_init_33 kw_ci (by decide) (by decide) (by decide) (by decide) (by decide) fun v4 => ?_
  refine s_putF dX12_init_35 fX12_20 rfl rfl rfl rfl ?_
  refine s_aload_n dX12_init_38 rfl ?_
  refine s_iconst (v := 3) dX12_init_39 (by decide) ?_
  refine s_newarray dX12_init_40 kw_ci (by decide) (by decide) (by decide) (by decide) (by decide) fun v5 => ?_
  refine s_putF dX12_init_42 fX12_23 rfl rfl rfl rfl ?_
  refine s_aload_n dX12_init_45 rfl ?_
  refine s_bipush (v := 10) dX12_init_46 (by decide) ?_
  refine s_newarray dX12_init_48 kw_ci (by decide) (by decide) (by decide) (by decide) (by decide) fun v6 => ?_
  refine s_putF dX12_init_50 fX12_26 rfl rfl rfl rfl ?_
  refine s_aload_n dX12_init_53 rfl ?_
  refine s_iconst (v := 5) dX12_init_54 (by decide) ?_
  refine s_newarray dX12_init_55 kw_ci (by decide) (by decide) (by decide) (by decide) (by decide) fun v7 => ?_
  refine s_putF dX12_init_57 fX12_29 rfl rfl rfl rfl ?_
  refine s_aload_n dX12_init_60 rfl ?_
  refine s_iconst (v := 5) dX12_init_61 (by decide) ?_
  refine s_newarray dX12_init_62 kw_ci (by decide) (by decide) (by decide) (by decide) (by decide) fun v8 => ?_
  refine s_putF dX12_init_64 fX12_32 rfl rfl rfl rfl ?_
  refine s_aload_n dX12_init_67 rfl ?_
  refine s_iconst (v := 3) dX12_init_68 (by decide) ?_
  refine s_newarray dX12_init_69 kw_ci (by decide) (by decide) (by decide) (by decide) (by decide) fun v9 => ?_
  refine s_putF dX12_init_71 fX12_35 rfl rfl rfl rfl ?_
  refine s_aload_n dX12_init_74 rfl ?_
  refine s_sipush (v := 512) dX12_init_75 (by decide) ?_
  refine s_newarray dX12_init_78 kw_ci (by decide) (by decide) (by decide) (by decide) (by decide) fun v10 => ?_
  refine s_putF dX12_init_80 fX12_38 rfl rfl rfl rfl ?_
  refine s_aload_n dX12_init_83 rfl ?_
  refine s_sipush (v := 200) dX12_init_84 (by decide) ?_
  refine s_newarray dX12_init_87 kw_ci (by decide) (by decide) (by decide) (by decide) (by decide) fun v11 => ?_
  refine s_putF dX12_init_89 fX12_41 rfl rfl rfl rfl ?_
  refine s_aload_n dX12_init_92 rfl ?_
  refine s_sipush (v := 250) dX12_init_93 (by decide) ?_
  refine s_newarray dX12_init_96 kw_ci (by decide) (by decide) (by decide) (by decide) (by decide) fun v12 => ?_
  refine s_putF dX12_init_98 fX12_44 rfl rfl rfl rfl ?_
  refine s_aload_n dX12_init_101 rfl ?_
  refine s_lconst (v := 1) dX12_init_102 (by decide) ?_
  refine s_put dX12_init_103 fX12_47 rfl rfl ?_
  exact s_return dX12_init_106 rfl
theorem CX12_init {l : Launch} {g : qG} {d : Nat} (x0 : Nat) : qCt l g mX12_init (d + 1) 12 2002 cvV [.ref x0] (FX12_init x0) := s_of pn_X12 (Nat.le_of_ble_eq_true rfl) fun n => FX12_init_ok x0

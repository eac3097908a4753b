theorem pn_X0 : plainName RX0 = true := by decide +kernel
theorem pn_X1 : plainName RX1 = true := by decide +kernel
theorem pn_X2 : plainName RX2 = true := by decide +kernel
theorem pn_X3 : plainName RX3 = true := by decide +kernel
theorem pn_X4 : plainName RX4 = true := by decide +kernel
theorem pn_X5 : plainName RX5 = true := by decide +kernel
theorem pn_X6 : plainName RX6 = true := by decide +kernel
theorem pn_X7 : plainName RX7 = true := by decide +kernel
theorem pn_X8 : plainName RX8 = true := by decide +kernel
theorem pn_X9 : plainName RX9 = true := by decide +kernel
theorem pn_X10 : plainName RX10 = true := by decide +kernel
theorem pn_X11 : plainName RX11 = true := by decide +kernel
theorem pn_X12 : plainName RX12 = true := by decide +kernel
theorem pn_J6 : plainName RJ6 = true := by decide +kernel
theorem pn_J7 : plainName RJ7 = true := by decide +kernel
theorem kw_casts : ∀ c, (c = 7 ∨ c = 6 ∨ c = 1 ∨ c = 9 ∨ c = 10) → ∃ r, vwCl[c]? = some r ∧ Cond.castable r.1 RX5 ∈ qtb := by
  intro c hc
  rcases hc with rfl | rfl | rfl | rfl | rfl
  · exact ⟨_, rfl, kw_castX7⟩
  · exact ⟨_, rfl, kw_castX6⟩
  · exact ⟨_, rfl, kw_castX1⟩
  · exact ⟨_, rfl, kw_castX9⟩
  · exact ⟨_, rfl, kw_castX10⟩
def FX5_hurts (x0 : Nat) : qP Int32 :=
qr (1 : Int32)
set_option maxRecDepth 100000 in
set_option maxHeartbeats 4000000 in
theorem FX5_hurts_ok {l : Launch} {g : qG} {d n : Nat} (x0 : Nat) : qS l g mX5_hurts d n 0 0 0 0 cvI 0 [(0, .ref x0)] [] (FX5_hurts x0) := by
  unfold FX5_hurts
  refine s_iconst (v := 1) dX5_hurts_0 (by decide) ?_
  exact s_ireturn dX5_hurts_1 rfl rfl
theorem CX5_hurts {l : Launch} {g : qG} {d : Nat} (x0 : Nat) : qCt l g mX5_hurts d 0 0 cvI [.ref x0] (FX5_hurts x0) := s_of pn_X5 (Nat.le_of_ble_eq_true rfl) fun n => FX5_hurts_ok x0
def FX1_hurts (x0 : Nat) : qP Int32 :=
qb (qkd x0) fun c => qgd (c = 5 ∨ c = 7 ∨ c = 6 ∨ c = 1 ∨ c = 9 ∨ c = 10) (qb (FX5_hurts x0) fun v1 =>
qr (v1 + (2 : Int32)))
set_option maxRecDepth 100000 in
set_option maxHeartbeats 4000000 in
theorem FX1_hurts_ok {l : Launch} {g : qG} {d n : Nat} (x0 : Nat) : qS l g mX1_hurts (d + 1) n 0 0 0 0 cvI 0 [(0, .ref x0)] [] (FX1_hurts x0) := by
  unfold FX1_hurts
  refine s_aload_n dX1_hurts_0 rfl ?_
  refine s_superIC (as := []) (rest := []) dX1_hurts_1 uX1_7 (CX5_hurts _) (Nat.le_of_ble_eq_true rfl) ⟨Nat.le_refl _, Nat.le_refl _⟩ fun v1 => ?_
  refine s_iconst (v := 2) dX1_hurts_4 (by decide) ?_
  refine s_iadd dX1_hurts_5 ?_
  exact s_ireturn dX1_hurts_6 rfl rfl
theorem CX1_hurts {l : Launch} {g : qG} {d : Nat} (x0 : Nat) : qCt l g mX1_hurts (d + 1) 0 0 cvI [.ref x0] (FX1_hurts x0) := s_of pn_X1 (Nat.le_of_ble_eq_true rfl) fun n => FX1_hurts_ok x0
def FX5_grows (x0 : Nat) (x1 : Int32) : qP Int32 :=
qr (1 : Int32)
set_option maxRecDepth 100000 in
set_option maxHeartbeats 4000000 in
theorem FX5_grows_ok {l : Launch} {g : qG} {d n : Nat} (x0 : Nat) (x1 : Int32) : qS l g mX5_grows d n 0 0 0 0 cvI 0 [(0, .ref x0), (1, .int x1)] [] (FX5_grows x0 x1) := by
  unfold FX5_grows
  refine s_iconst (v := 1) dX5_grows_0 (by decide) ?_
  exact s_ireturn dX5_grows_1 rfl rfl
theorem CX5_grows {l : Launch} {g : qG} {d : Nat} (x0 : Nat) (x1 : Int32) : qCt l g mX5_grows d 0 0 cvI [.ref x0, .int x1] (FX5_grows x0 x1) := s_of pn_X5 (Nat.le_of_ble_eq_true rfl) fun n => FX5_grows_ok x0 x1
def FX1_grows (x0 : Nat) (x1 : Int32) : qP Int32 :=
qb (qkd x0) fun c => qgd (c = 5 ∨ c = 7 ∨ c = 6 ∨ c = 1 ∨ c = 9 ∨ c = 10) (qb (FX5_grows x0 x1) fun v1 =>
qr (v1 + (1 : Int32)))
set_option maxRecDepth 100000 in
set_option maxHeartbeats 4000000 in
theorem FX1_grows_ok {l : Launch} {g : qG} {d n : Nat} (x0 : Nat) (x1 : Int32) : qS l g mX1_grows (d + 1) n 0 0 0 0 cvI 0 [(0, .ref x0), (1, .int x1)] [] (FX1_grows x0 x1) := by
  unfold FX1_grows
  refine s_aload_n dX1_grows_0 rfl ?_
  refine s_iload_n dX1_grows_1 rfl ?_
  refine s_superIC (as := [.int x1]) (rest := []) dX1_grows_2 uX1_11 (CX5_grows _ _) (Nat.le_of_ble_eq_true rfl) ⟨Nat.le_refl _, Nat.le_refl _⟩ fun v1 => ?_
  refine s_iconst (v := 1) dX1_grows_5 (by decide) ?_
  refine s_iadd dX1_grows_6 ?_
  exact s_ireturn dX1_grows_7 rfl rfl
theorem CX1_grows {l : Launch} {g : qG} {d : Nat} (x0 : Nat) (x1 : Int32) : qCt l g mX1_grows (d + 1) 0 0 cvI [.ref x0, .int x1] (FX1_grows x0 x1) := s_of pn_X1 (Nat.le_of_ble_eq_true rfl) fun n => FX1_grows_ok x0 x1
def FX5_picks (x0 : Nat) (x1 : Int32) : qP Int32 :=
qr (3 : Int32)
set_option maxRecDepth 100000 in
set_option maxHeartbeats 4000000 in
theorem FX5_picks_ok {l : Launch} {g : qG} {d n : Nat} (x0 : Nat) (x1 : Int32) : qS l g mX5_picks d n 0 0 0 0 cvI 0 [(0, .ref x0), (1, .int x1)] [] (FX5_picks x0 x1) := by
  unfold FX5_picks
  refine s_iconst (v := 3) dX5_picks_0 (by decide) ?_
  exact s_ireturn dX5_picks_1 rfl rfl
theorem CX5_picks {l : Launch} {g : qG} {d : Nat} (x0 : Nat) (x1 : Int32) : qCt l g mX5_picks d 0 0 cvI [.ref x0, .int x1] (FX5_picks x0 x1) := s_of pn_X5 (Nat.le_of_ble_eq_true rfl) fun n => FX5_picks_ok x0 x1
def FX6_picks (x0 : Nat) (x1 : Int32) : qP Int32 :=
qb (qkd x0) fun c => qgd (c = 5 ∨ c = 7 ∨ c = 6 ∨ c = 1 ∨ c = 9 ∨ c = 10) (qb (FX5_picks x0 x1) fun v1 =>
qr (v1 + (1 : Int32)))
set_option maxRecDepth 100000 in
set_option maxHeartbeats 4000000 in
theorem FX6_picks_ok {l : Launch} {g : qG} {d n : Nat} (x0 : Nat) (x1 : Int32) : qS l g mX6_picks (d + 1) n 0 0 0 0 cvI 0 [(0, .ref x0), (1, .int x1)] [] (FX6_picks x0 x1) := by
  unfold FX6_picks
  refine s_aload_n dX6_picks_0 rfl ?_
  refine s_iload_n dX6_picks_1 rfl ?_
  refine s_superC (as := [.int x1]) (rest := []) dX6_picks_2 uX6_7 (CX5_picks _ _) (Nat.le_of_ble_eq_true rfl) ⟨Nat.le_refl _, Nat.le_refl _⟩ fun v1 => ?_
  refine s_iconst (v := 1) dX6_picks_5 (by decide) ?_
  refine s_iadd dX6_picks_6 ?_
  exact s_ireturn dX6_picks_7 rfl rfl
theorem CX6_picks {l : Launch} {g : qG} {d : Nat} (x0 : Nat) (x1 : Int32) : qCt l g mX6_picks (d + 1) 0 0 cvI [.ref x0, .int x1] (FX6_picks x0 x1) := s_of pn_X6 (Nat.le_of_ble_eq_true rfl) fun n => FX6_picks_ok x0 x1
def FX9_picks (x0 : Nat) (x1 : Int32) : qP Int32 :=
if (x1 - x1 / (3 : Int32) * (3 : Int32)) = (2 : Int32) then (
qr (0 : Int32)) else (
qb (qkd x0) fun c => qgd (c = 5 ∨ c = 7 ∨ c = 6 ∨ c = 1 ∨ c = 9 ∨ c = 10) (qb (FX5_picks x0 x1) fun v1 =>
qr v1))
set_option maxRecDepth 100000 in
set_option maxHeartbeats 4000000 in
theorem FX9_picks_ok {l : Launch} {g : qG} {d n : Nat} (x0 : Nat) (x1 : Int32) : qS l g mX9_picks (d + 1) n 0 0 0 0 cvI 0 [(0, .ref x0), (1, .int x1)] [] (FX9_picks x0 x1) := by
  unfold FX9_picks
  refine s_iload_n dX9_picks_0 rfl ?_
  refine s_iconst (v := 3) dX9_picks_1 (by decide) ?_
  refine s_irem dX9_picks_2 (by decide) ?_
  refine s_iconst (v := 2) dX9_picks_3 (by decide) ?_
  refine s_icmp_ne (tgt := 11) dX9_picks_4 (by decide) (fun c1 => ?_) (fun c1 => ?_)
  · refine s_iconst (v := 0) dX9_picks_7 (by decide) ?_
    refine s_goto (tgt := 16) dX9_picks_8 (by decide) ?_
    exact s_ireturn dX9_picks_16 rfl rfl
  · refine s_aload_n dX9_picks_11 rfl ?_
    refine s_iload_n dX9_picks_12 rfl ?_
    refine s_superIC (as := [.int x1]) (rest := []) dX9_picks_13 uX9_7 (CX5_picks _ _) (Nat.le_of_ble_eq_true rfl) ⟨Nat.le_refl _, Nat.le_refl _⟩ fun v1 => ?_
    exact s_ireturn dX9_picks_16 rfl rfl
theorem CX9_picks {l : Launch} {g : qG} {d : Nat} (x0 : Nat) (x1 : Int32) : qCt l g mX9_picks (d + 1) 0 0 cvI [.ref x0, .int x1] (FX9_picks x0 x1) := s_of pn_X9 (Nat.le_of_ble_eq_true rfl) fun n => FX9_picks_ok x0 x1
def FX10_picks (x0 : Nat) (x1 : Int32) : qP Int32 :=
qb (qkd x0) fun c => qgd (c = 5 ∨ c = 7 ∨ c = 6 ∨ c = 1 ∨ c = 9 ∨ c = 10) (qb (FX6_picks x0 x1) fun v1 =>
qr (v1 / (2 : Int32)))
set_option maxRecDepth 100000 in
set_option maxHeartbeats 4000000 in
theorem FX10_picks_ok {l : Launch} {g : qG} {d n : Nat} (x0 : Nat) (x1 : Int32) : qS l g mX10_picks (d + 2) n 0 0 0 0 cvI 0 [(0, .ref x0), (1, .int x1)] [] (FX10_picks x0 x1) := by
  unfold FX10_picks
  refine s_aload_n dX10_picks_0 rfl ?_
  refine s_iload_n dX10_picks_1 rfl ?_
  refine s_superC (as := [.int x1]) (rest := []) dX10_picks_2 uX10_7 (CX6_picks _ _) (Nat.le_of_ble_eq_true rfl) ⟨Nat.le_refl _, Nat.le_refl _⟩ fun v1 => ?_
  refine s_iconst (v := 2) dX10_picks_5 (by decide) ?_
  refine s_idiv dX10_picks_6 (by decide) ?_
  exact s_ireturn dX10_picks_7 rfl rfl
theorem CX10_picks {l : Launch} {g : qG} {d : Nat} (x0 : Nat) (x1 : Int32) : qCt l g mX10_picks (d + 2) 0 0 cvI [.ref x0, .int x1] (FX10_picks x0 x1) := s_of pn_X10 (Nat.le_of_ble_eq_true rfl) fun n => FX10_picks_ok x0 x1
def D_picks (a : Nat) (x : Int32) : qP Int32 := qb (qkd a) fun c => if c = 5 then FX5_picks a x else if c = 7 then FX5_picks a x else if c = 6 then FX6_picks a x else if c = 1 then FX6_picks a x else if c = 9 then FX9_picks a x else if c = 10 then FX10_picks a x else qfail
theorem OX2_133 {l : Launch} {g : qG} {d : Nat} (a : Nat) (x : Int32) : qOv l g RX2 133 (d + 2) a [.int x] (D_picks a x) := by
  intro h v h' e
  unfold D_picks at e
  obtain ⟨c, h0, e0, e1⟩ := qb_some e
  obtain ⟨fs, c1, rfl⟩ := qkd_some e0
  by_cases qX5 : c = 5
  · subst qX5; rw [if_pos rfl] at e1; exact ⟨5, fs, mX5_picks, _, _, c1, oX2_133_X5, CX5_picks (d := d + 2) a x _ v h' e1⟩
  rw [if_neg qX5] at e1
  by_cases qX7 : c = 7
  · subst qX7; rw [if_pos rfl] at e1; exact ⟨7, fs, mX5_picks, _, _, c1, oX2_133_X7, CX5_picks (d := d + 2) a x _ v h' e1⟩
  rw [if_neg qX7] at e1
  by_cases qX6 : c = 6
  · subst qX6; rw [if_pos rfl] at e1; exact ⟨6, fs, mX6_picks, _, _, c1, oX2_133_X6, CX6_picks (d := d + 1) a x _ v h' e1⟩
  rw [if_neg qX6] at e1
  by_cases qX1 : c = 1
  · subst qX1; rw [if_pos rfl] at e1; exact ⟨1, fs, mX6_picks, _, _, c1, oX2_133_X1, CX6_picks (d := d + 1) a x _ v h' e1⟩
  rw [if_neg qX1] at e1
  by_cases qX9 : c = 9
  · subst qX9; rw [if_pos rfl] at e1; exact ⟨9, fs, mX9_picks, _, _, c1, oX2_133_X9, CX9_picks (d := d + 1) a x _ v h' e1⟩
  rw [if_neg qX9] at e1
  by_cases qX10 : c = 10
  · subst qX10; rw [if_pos rfl] at e1; exact ⟨10, fs, mX10_picks, _, _, c1, oX2_133_X10, CX10_picks (d := d + 0) a x _ v h' e1⟩
  rw [if_neg qX10] at e1
  cases e1
theorem OX4_68 {l : Launch} {g : qG} {d : Nat} (a : Nat) (x : Int32) : qOv l g RX4 68 (d + 2) a [.int x] (D_picks a x) := by
  intro h v h' e
  unfold D_picks at e
  obtain ⟨c, h0, e0, e1⟩ := qb_some e
  obtain ⟨fs, c1, rfl⟩ := qkd_some e0
  by_cases qX5 : c = 5
  · subst qX5; rw [if_pos rfl] at e1; exact ⟨5, fs, mX5_picks, _, _, c1, oX4_68_X5, CX5_picks (d := d + 2) a x _ v h' e1⟩
  rw [if_neg qX5] at e1
  by_cases qX7 : c = 7
  · subst qX7; rw [if_pos rfl] at e1; exact ⟨7, fs, mX5_picks, _, _, c1, oX4_68_X7, CX5_picks (d := d + 2) a x _ v h' e1⟩
  rw [if_neg qX7] at e1
  by_cases qX6 : c = 6
  · subst qX6; rw [if_pos rfl] at e1; exact ⟨6, fs, mX6_picks, _, _, c1, oX4_68_X6, CX6_picks (d := d + 1) a x _ v h' e1⟩
  rw [if_neg qX6] at e1
  by_cases qX1 : c = 1
  · subst qX1; rw [if_pos rfl] at e1; exact ⟨1, fs, mX6_picks, _, _, c1, oX4_68_X1, CX6_picks (d := d + 1) a x _ v h' e1⟩
  rw [if_neg qX1] at e1
  by_cases qX9 : c = 9
  · subst qX9; rw [if_pos rfl] at e1; exact ⟨9, fs, mX9_picks, _, _, c1, oX4_68_X9, CX9_picks (d := d + 1) a x _ v h' e1⟩
  rw [if_neg qX9] at e1
  by_cases qX10 : c = 10
  · subst qX10; rw [if_pos rfl] at e1; exact ⟨10, fs, mX10_picks, _, _, c1, oX4_68_X10, CX10_picks (d := d + 0) a x _ v h' e1⟩
  rw [if_neg qX10] at e1
  cases e1
def FX7_hurts (x0 : Nat) : qP Int32 :=
qb (qkd x0) fun c => qgd (c = 5 ∨ c = 7 ∨ c = 6 ∨ c = 1 ∨ c = 9 ∨ c = 10) (qb (FX5_hurts x0) fun v1 =>
qr (v1 - (1 : Int32)))
set_option maxRecDepth 100000 in
set_option maxHeartbeats 4000000 in
theorem FX7_hurts_ok {l : Launch} {g : qG} {d n : Nat} (x0 : Nat) : qS l g mX7_hurts (d + 1) n 0 0 0 0 cvI 0 [(0, .ref x0)] [] (FX7_hurts x0) := by
  unfold FX7_hurts
  refine s_aload_n dX7_hurts_0 rfl ?_
  refine s_superC (as := []) (rest := []) dX7_hurts_1 uX7_7 (CX5_hurts _) (Nat.le_of_ble_eq_true rfl) ⟨Nat.le_refl _, Nat.le_refl _⟩ fun v1 => ?_
  refine s_iconst (v := 1) dX7_hurts_4 (by decide) ?_
  refine s_isub dX7_hurts_5 ?_
  exact s_ireturn dX7_hurts_6 rfl rfl
theorem CX7_hurts {l : Launch} {g : qG} {d : Nat} (x0 : Nat) : qCt l g mX7_hurts (d + 1) 0 0 cvI [.ref x0] (FX7_hurts x0) := s_of pn_X7 (Nat.le_of_ble_eq_true rfl) fun n => FX7_hurts_ok x0
def D_hurts (a : Nat) : qP Int32 := qb (qkd a) fun c => if c = 5 then FX5_hurts a else if c = 7 then FX7_hurts a else if c = 6 then FX5_hurts a else if c = 1 then FX1_hurts a else if c = 9 then FX7_hurts a else if c = 10 then FX5_hurts a else qfail
theorem OX2_136 {l : Launch} {g : qG} {d : Nat} (a : Nat) : qOv l g RX2 136 (d + 1) a [] (D_hurts a) := by
  intro h v h' e
  unfold D_hurts at e
  obtain ⟨c, h0, e0, e1⟩ := qb_some e
  obtain ⟨fs, c1, rfl⟩ := qkd_some e0
  by_cases qX5 : c = 5
  · subst qX5; rw [if_pos rfl] at e1; exact ⟨5, fs, mX5_hurts, _, _, c1, oX2_136_X5, CX5_hurts (d := d + 1) a _ v h' e1⟩
  rw [if_neg qX5] at e1
  by_cases qX7 : c = 7
  · subst qX7; rw [if_pos rfl] at e1; exact ⟨7, fs, mX7_hurts, _, _, c1, oX2_136_X7, CX7_hurts (d := d + 0) a _ v h' e1⟩
  rw [if_neg qX7] at e1
  by_cases qX6 : c = 6
  · subst qX6; rw [if_pos rfl] at e1; exact ⟨6, fs, mX5_hurts, _, _, c1, oX2_136_X6, CX5_hurts (d := d + 1) a _ v h' e1⟩
  rw [if_neg qX6] at e1
  by_cases qX1 : c = 1
  · subst qX1; rw [if_pos rfl] at e1; exact ⟨1, fs, mX1_hurts, _, _, c1, oX2_136_X1, CX1_hurts (d := d + 0) a _ v h' e1⟩
  rw [if_neg qX1] at e1
  by_cases qX9 : c = 9
  · subst qX9; rw [if_pos rfl] at e1; exact ⟨9, fs, mX7_hurts, _, _, c1, oX2_136_X9, CX7_hurts (d := d + 0) a _ v h' e1⟩
  rw [if_neg qX9] at e1
  by_cases qX10 : c = 10
  · subst qX10; rw [if_pos rfl] at e1; exact ⟨10, fs, mX5_hurts, _, _, c1, oX2_136_X10, CX5_hurts (d := d + 1) a _ v h' e1⟩
  rw [if_neg qX10] at e1
  cases e1
def FX7_grows (x0 : Nat) (x1 : Int32) : qP Int32 :=
if (x1 - x1 / (2 : Int32) * (2 : Int32)) = (1 : Int32) then (
qr (1 : Int32)) else (
qr (0 : Int32))
set_option maxRecDepth 100000 in
set_option maxHeartbeats 4000000 in
theorem FX7_grows_ok {l : Launch} {g : qG} {d n : Nat} (x0 : Nat) (x1 : Int32) : qS l g mX7_grows d n 0 0 0 0 cvI 0 [(0, .ref x0), (1, .int x1)] [] (FX7_grows x0 x1) := by
  unfold FX7_grows
  refine s_iload_n dX7_grows_0 rfl ?_
  refine s_iconst (v := 2) dX7_grows_1 (by decide) ?_
  refine s_irem dX7_grows_2 (by decide) ?_
  refine s_iconst (v := 1) dX7_grows_3 (by decide) ?_
  refine s_icmp_ne (tgt := 11) dX7_grows_4 (by decide) (fun c1 => ?_) (fun c1 => ?_)
  · refine s_iconst (v := 1) dX7_grows_7 (by decide) ?_
    refine s_goto (tgt := 12) dX7_grows_8 (by decide) ?_
    exact s_ireturn dX7_grows_12 rfl rfl
  · refine s_iconst (v := 0) dX7_grows_11 (by decide) ?_
    exact s_ireturn dX7_grows_12 rfl rfl
theorem CX7_grows {l : Launch} {g : qG} {d : Nat} (x0 : Nat) (x1 : Int32) : qCt l g mX7_grows d 0 0 cvI [.ref x0, .int x1] (FX7_grows x0 x1) := s_of pn_X7 (Nat.le_of_ble_eq_true rfl) fun n => FX7_grows_ok x0 x1
def FX10_grows (x0 : Nat) (x1 : Int32) : qP Int32 :=
qb (qkd x0) fun c => qgd (c = 5 ∨ c = 7 ∨ c = 6 ∨ c = 1 ∨ c = 9 ∨ c = 10) (qb (FX5_grows x0 x1) fun v1 =>
qr (v1 + (1 : Int32)))
set_option maxRecDepth 100000 in
set_option maxHeartbeats 4000000 in
theorem FX10_grows_ok {l : Launch} {g : qG} {d n : Nat} (x0 : Nat) (x1 : Int32) : qS l g mX10_grows (d + 1) n 0 0 0 0 cvI 0 [(0, .ref x0), (1, .int x1)] [] (FX10_grows x0 x1) := by
  unfold FX10_grows
  refine s_aload_n dX10_grows_0 rfl ?_
  refine s_iload_n dX10_grows_1 rfl ?_
  refine s_superIC (as := [.int x1]) (rest := []) dX10_grows_2 uX10_11 (CX5_grows _ _) (Nat.le_of_ble_eq_true rfl) ⟨Nat.le_refl _, Nat.le_refl _⟩ fun v1 => ?_
  refine s_iconst (v := 1) dX10_grows_5 (by decide) ?_
  refine s_iadd dX10_grows_6 ?_
  exact s_ireturn dX10_grows_7 rfl rfl
theorem CX10_grows {l : Launch} {g : qG} {d : Nat} (x0 : Nat) (x1 : Int32) : qCt l g mX10_grows (d + 1) 0 0 cvI [.ref x0, .int x1] (FX10_grows x0 x1) := s_of pn_X10 (Nat.le_of_ble_eq_true rfl) fun n => FX10_grows_ok x0 x1
def D_grows (a : Nat) (x : Int32) : qP Int32 := qb (qkd a) fun c => if c = 5 then FX5_grows a x else if c = 7 then FX7_grows a x else if c = 6 then FX5_grows a x else if c = 1 then FX1_grows a x else if c = 9 then FX7_grows a x else if c = 10 then FX10_grows a x else qfail
theorem OX2_123 {l : Launch} {g : qG} {d : Nat} (a : Nat) (x : Int32) : qOv l g RX2 123 (d + 1) a [.int x] (D_grows a x) := by
  intro h v h' e
  unfold D_grows at e
  obtain ⟨c, h0, e0, e1⟩ := qb_some e
  obtain ⟨fs, c1, rfl⟩ := qkd_some e0
  by_cases qX5 : c = 5
  · subst qX5; rw [if_pos rfl] at e1; exact ⟨5, fs, mX5_grows, _, _, c1, oX2_123_X5, CX5_grows (d := d + 1) a x _ v h' e1⟩
  rw [if_neg qX5] at e1
  by_cases qX7 : c = 7
  · subst qX7; rw [if_pos rfl] at e1; exact ⟨7, fs, mX7_grows, _, _, c1, oX2_123_X7, CX7_grows (d := d + 1) a x _ v h' e1⟩
  rw [if_neg qX7] at e1
  by_cases qX6 : c = 6
  · subst qX6; rw [if_pos rfl] at e1; exact ⟨6, fs, mX5_grows, _, _, c1, oX2_123_X6, CX5_grows (d := d + 1) a x _ v h' e1⟩
  rw [if_neg qX6] at e1
  by_cases qX1 : c = 1
  · subst qX1; rw [if_pos rfl] at e1; exact ⟨1, fs, mX1_grows, _, _, c1, oX2_123_X1, CX1_grows (d := d + 0) a x _ v h' e1⟩
  rw [if_neg qX1] at e1
  by_cases qX9 : c = 9
  · subst qX9; rw [if_pos rfl] at e1; exact ⟨9, fs, mX7_grows, _, _, c1, oX2_123_X9, CX7_grows (d := d + 1) a x _ v h' e1⟩
  rw [if_neg qX9] at e1
  by_cases qX10 : c = 10
  · subst qX10; rw [if_pos rfl] at e1; exact ⟨10, fs, mX10_grows, _, _, c1, oX2_123_X10, CX10_grows (d := d + 0) a x _ v h' e1⟩
  rw [if_neg qX10] at e1
  cases e1

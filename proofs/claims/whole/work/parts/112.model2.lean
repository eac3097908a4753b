def UX12_digest_6 (R : Nat → Int64 → Int32 → qP Int64) (K31 : Nat → Int64 → qP Int64) (x0 : Nat) (x1 : Int64) (x3 : Int32) : qP Int64 :=
if (8 : Int32) ≤ x3 then (
K31 x0 x1) else (
qb (qcl 12 x0) fun _ => qb (FX12_countOf x0 x3) fun v1 =>
R x0 (((31 : Int64) * x1) + (v1).toInt64) (x3 + 1))
set_option maxRecDepth 100000 in
set_option maxHeartbeats 4000000 in
theorem UX12_digest_6_ok {l : Launch} {g : qG} {d n : Nat} {R : Nat → Int64 → Int32 → qP Int64} (hR : ∀ (x0 : Nat) (x1 : Int64) (x3 : Int32), qS l g mX12_digest (d + 1) n 0 0 0 0 cvL 6 [(0, .ref x0), (1, .long x1), (3, .int x3)] [] (R x0 x1 x3)) {K31 : Nat → Int64 → qP Int64} (hK31 : ∀ (x0 : Nat) (x1 : Int64), qS l g mX12_digest (d + 1) n 0 0 0 0 cvL 31 [(0, .ref x0), (1, .long x1)] [] (K31 x0 x1)) (x0 : Nat) (x1 : Int64) (x3 : Int32) : qS l g mX12_digest (d + 1) n 0 0 0 0 cvL 6 [(0, .ref x0), (1, .long x1), (3, .int x3)] [] (UX12_digest_6 R K31 x0 x1 x3) := by
  unfold UX12_digest_6
  refine s_iload_n dX12_digest_6 rfl ?_
  refine s_bipush (v := 8) dX12_digest_7 (by decide) ?_
  refine s_icmp_ge (tgt := 31) dX12_digest_9 (by decide) (fun c1 => ?_) (fun c1 => ?_)
  · refine s_locals [0, 1] rfl ?_
    exact hK31 x0 x1
  · refine s_ldc2 dX12_digest_12 lX12_263 ?_
    refine s_lload_n dX12_digest_15 rfl ?_
    refine s_lmul dX12_digest_16 ?_
    refine s_aload_n dX12_digest_17 rfl ?_
    refine s_iload_n dX12_digest_18 rfl ?_
    refine s_virtI (as := [.int x3]) (rest := [.long ((31 : Int64) * x1)]) dX12_digest_19 vX12_260 (CX12_countOf _ _) (Nat.le_of_ble_eq_true rfl) ⟨Nat.le_refl _, Nat.le_refl _⟩ fun v1 => ?_
    refine s_i2l dX12_digest_22 ?_
    refine s_ladd dX12_digest_23 ?_
    refine s_lstore_n (lv' := [(1, .long (((31 : Int64) * x1) + (v1).toInt64)), (0, .ref x0), (3, .int x3)]) dX12_digest_24 (by decide) rfl ?_
    refine s_iinc (lv' := [(3, .int (x3 + 1)), (1, .long (((31 : Int64) * x1) + (v1).toInt64)), (0, .ref x0)]) dX12_digest_25 rfl (by decide) rfl ?_
    refine s_goto (tgt := 6) dX12_digest_28 (by decide) ?_
    refine s_locals [2, 1, 0] rfl ?_
    exact hR x0 (((31 : Int64) * x1) + (v1).toInt64) (x3 + 1)
def WX12_digest_6 (K31 : Nat → Int64 → qP Int64) : Nat → Nat → Int64 → Int32 → qP Int64
  | 0 => fun _ _ _ => qfail
  | N + 1 => fun x0 x1 x3 => UX12_digest_6 (WX12_digest_6 K31 N) K31 x0 x1 x3
theorem WX12_digest_6_ok {l : Launch} {g : qG} {d n : Nat} {K31 : Nat → Int64 → qP Int64} (hK31 : ∀ (x0 : Nat) (x1 : Int64), qS l g mX12_digest (d + 1) n 0 0 0 0 cvL 31 [(0, .ref x0), (1, .long x1)] [] (K31 x0 x1)) : ∀ (N : Nat) (x0 : Nat) (x1 : Int64) (x3 : Int32), qS l g mX12_digest (d + 1) n 0 0 0 0 cvL 6 [(0, .ref x0), (1, .long x1), (3, .int x3)] [] (WX12_digest_6 K31 N x0 x1 x3) := by
  intro N
  induction N with
  | zero => intro x0 x1 x3; exact s_fail
  | succ N ih => intro x0 x1 x3; exact UX12_digest_6_ok ih hK31 x0 x1 x3
def UX12_digest_42 (R : Nat → Int64 → Int32 → qP Int64) (K107 : Nat → Int64 → qP Int64) (x0 : Nat) (x1 : Int64) (x3 : Int32) : qP Int64 :=
qb (gR 12 x0 0) fun v1 =>
qb (aI v1 (0 : Int32)) fun v2 =>
if v2 ≤ x3 then (
K107 x0 x1) else (
qb (gR 12 x0 0) fun v3 =>
qb (aI v3 ((16 : Int32) + ((3 : Int32) * x3))) fun v4 =>
qb (gR 12 x0 0) fun v5 =>
qb (aI v5 ((9 : Int32) + x3)) fun v6 =>
qb (qcl 12 x0) fun _ => qb (FX12_mixed x0 (((31 : Int64) * (((31 : Int64) * x1) + (v4).toInt64)) + (v6).toInt64) (((16 : Int32) + ((3 : Int32) * x3)) + (1 : Int32)) (2 : Int32)) fun v7 =>
R x0 v7 (x3 + 1))
set_option maxRecDepth 100000 in
set_option maxHeartbeats 4000000 in
theorem UX12_digest_42_ok {l : Launch} {g : qG} {d n : Nat} {R : Nat → Int64 → Int32 → qP Int64} (hR : ∀ (x0 : Nat) (x1 : Int64) (x3 : Int32), qS l g mX12_digest (d + 1) n 0 0 0 0 cvL 42 [(0, .ref x0), (1, .long x1), (3, .int x3)] [] (R x0 x1 x3)) {K107 : Nat → Int64 → qP Int64} (hK107 : ∀ (x0 : Nat) (x1 : Int64), qS l g mX12_digest (d + 1) n 0 0 0 0 cvL 107 [(0, .ref x0), (1, .long x1)] [] (K107 x0 x1)) (x0 : Nat) (x1 : Int64) (x3 : Int32) : qS l g mX12_digest (d + 1) n 0 0 0 0 cvL 42 [(0, .ref x0), (1, .long x1), (3, .int x3)] [] (UX12_digest_42 R K107 x0 x1 x3) := by
  unfold UX12_digest_42
  refine s_iload_n dX12_digest_42 rfl ?_
  refine s_aload_n dX12_digest_43 rfl ?_
  refine s_gR dX12_digest_44 fX12_7 fun v1 => ?_
  refine s_iconst (v := 0) dX12_digest_47 (by decide) ?_
  refine s_aI dX12_digest_48 fun v2 => ?_
  refine s_icmp_ge (tgt := 107) dX12_digest_49 (by decide) (fun c1 => ?_) (fun c1 => ?_)
  · refine s_locals [0, 1] rfl ?_
    exact hK107 x0 x1
  · refine s_ldc2 dX12_digest_52 lX12_263 ?_
    refine s_ldc2 dX12_digest_55 lX12_263 ?_
    refine s_lload_n dX12_digest_58 rfl ?_
    refine s_lmul dX12_digest_59 ?_
    refine s_aload_n dX12_digest_60 rfl ?_
    refine s_gR dX12_digest_61 fX12_7 fun v3 => ?_
    refine s_bipush (v := 16) dX12_digest_64 (by decide) ?_
    refine s_iconst (v := 3) dX12_digest_66 (by decide) ?_
    refine s_iload_n dX12_digest_67 rfl ?_
    refine s_imul dX12_digest_68 ?_
    refine s_iadd dX12_digest_69 ?_
    refine s_aI dX12_digest_70 fun v4 => ?_
    refine s_i2l dX12_digest_71 ?_
    refine s_ladd dX12_digest_72 ?_
    refine s_lmul dX12_digest_73 ?_
    refine s_aload_n dX12_digest_74 rfl ?_
    refine s_gR dX12_digest_75 fX12_7 fun v5 => ?_
    refine s_bipush (v := 9) dX12_digest_78 (by decide) ?_
    refine s_iload_n dX12_digest_80 rfl ?_
    refine s_iadd dX12_digest_81 ?_
    refine s_aI dX12_digest_82 fun v6 => ?_
    refine s_i2l dX12_digest_83 ?_
    refine s_ladd dX12_digest_84 ?_
    refine s_lstore_n (lv' := [(1, .long (((31 : Int64) * (((31 : Int64) * x1) + (v4).toInt64)) + (v6).toInt64)), (0, .ref x0), (3, .int x3)]) dX12_digest_85 (by decide) rfl ?_
    refine s_aload_n dX12_digest_86 rfl ?_
    refine s_lload_n dX12_digest_87 rfl ?_
    refine s_bipush (v := 16) dX12_digest_88 (by decide) ?_
    refine s_iconst (v := 3) dX12_digest_90 (by decide) ?_
    refine s_iload_n dX12_digest_91 rfl ?_
    refine s_imul dX12_digest_92 ?_
    refine s_iadd dX12_digest_93 ?_
    refine s_iconst (v := 1) dX12_digest_94 (by decide) ?_
    refine s_iadd dX12_digest_95 ?_
    refine s_iconst (v := 2) dX12_digest_96 (by decide) ?_
    refine s_virtL (as := [.long (((31 : Int64) * (((31 : Int64) * x1) + (v4).toInt64)) + (v6).toInt64), .int (((16 : Int32) + ((3 : Int32) * x3)) + (1 : Int32)), .int (2 : Int32)]) (rest := []) dX12_digest_97 vX12_267 (CX12_mixed _ _ _ _) (Nat.le_of_ble_eq_true rfl) ⟨Nat.le_refl _, Nat.le_refl _⟩ fun v7 => ?_
    refine s_lstore_n (lv' := [(1, .long v7), (0, .ref x0), (3, .int x3)]) dX12_digest_100 (by decide) rfl ?_
    refine s_iinc (lv' := [(3, .int (x3 + 1)), (1, .long v7), (0, .ref x0)]) dX12_digest_101 rfl (by decide) rfl ?_
    refine s_goto (tgt := 42) dX12_digest_104 (by decide) ?_
    refine s_locals [2, 1, 0] rfl ?_
    exact hR x0 v7 (x3 + 1)
def WX12_digest_42 (K107 : Nat → Int64 → qP Int64) : Nat → Nat → Int64 → Int32 → qP Int64
  | 0 => fun _ _ _ => qfail
  | N + 1 => fun x0 x1 x3 => UX12_digest_42 (WX12_digest_42 K107 N) K107 x0 x1 x3
theorem WX12_digest_42_ok {l : Launch} {g : qG} {d n : Nat} {K107 : Nat → Int64 → qP Int64} (hK107 : ∀ (x0 : Nat) (x1 : Int64), qS l g mX12_digest (d + 1) n 0 0 0 0 cvL 107 [(0, .ref x0), (1, .long x1)] [] (K107 x0 x1)) : ∀ (N : Nat) (x0 : Nat) (x1 : Int64) (x3 : Int32), qS l g mX12_digest (d + 1) n 0 0 0 0 cvL 42 [(0, .ref x0), (1, .long x1), (3, .int x3)] [] (WX12_digest_42 K107 N x0 x1 x3) := by
  intro N
  induction N with
  | zero => intro x0 x1 x3; exact s_fail
  | succ N ih => intro x0 x1 x3; exact UX12_digest_42_ok ih hK107 x0 x1 x3
def UX12_digest_109 (R : Nat → Int64 → Int32 → qP Int64) (K157 : Nat → Int64 → qP Int64) (x0 : Nat) (x1 : Int64) (x3 : Int32) : qP Int64 :=
qb (gR 12 x0 0) fun v1 =>
qb (aI v1 (1 : Int32)) fun v2 =>
if v2 ≤ x3 then (
K157 x0 x1) else (
qb (gR 12 x0 0) fun v3 =>
qb (aI v3 ((25 : Int32) + x3)) fun v4 =>
qb (gR 12 x0 0) fun v5 =>
qb (aI v5 ((12 : Int32) + x3)) fun v6 =>
R x0 (((31 : Int64) * (((31 : Int64) * x1) + (v4).toInt64)) + (v6).toInt64) (x3 + 1))
set_option maxRecDepth 100000 in
set_option maxHeartbeats 4000000 in
theorem UX12_digest_109_ok {l : Launch} {g : qG} {d n : Nat} {R : Nat → Int64 → Int32 → qP Int64} (hR : ∀ (x0 : Nat) (x1 : Int64) (x3 : Int32), qS l g mX12_digest (d + 1) n 0 0 0 0 cvL 109 [(0, .ref x0), (1, .long x1), (3, .int x3)] [] (R x0 x1 x3)) {K157 : Nat → Int64 → qP Int64} (hK157 : ∀ (x0 : Nat) (x1 : Int64), qS l g mX12_digest (d + 1) n 0 0 0 0 cvL 157 [(0, .ref x0), (1, .long x1)] [] (K157 x0 x1)) (x0 : Nat) (x1 : Int64) (x3 : Int32) : qS l g mX12_digest (d + 1) n 0 0 0 0 cvL 109 [(0, .ref x0), (1, .long x1), (3, .int x3)] [] (UX12_digest_109 R K157 x0 x1 x3) := by
  unfold UX12_digest_109
  refine s_iload_n dX12_digest_109 rfl ?_
  refine s_aload_n dX12_digest_110 rfl ?_
  refine s_gR dX12_digest_111 fX12_7 fun v1 => ?_
  refine s_iconst (v := 1) dX12_digest_114 (by decide) ?_
  refine s_aI dX12_digest_115 fun v2 => ?_
  refine s_icmp_ge (tgt := 157) dX12_digest_116 (by decide) (fun c1 => ?_) (fun c1 => ?_)
  · refine s_locals [0, 1] rfl ?_
    exact hK157 x0 x1
  · refine s_ldc2 dX12_digest_119 lX12_263 ?_
    refine s_ldc2 dX12_digest_122 lX12_263 ?_
    refine s_lload_n dX12_digest_125 rfl ?_
    refine s_lmul dX12_digest_126 ?_
    refine s_aload_n dX12_digest_127 rfl ?_
    refine s_gR dX12_digest_128 fX12_7 fun v3 => ?_
    refine s_bipush (v := 25) dX12_digest_131 (by decide) ?_
    refine s_iload_n dX12_digest_133 rfl ?_
    refine s_iadd dX12_digest_134 ?_
    refine s_aI dX12_digest_135 fun v4 => ?_
    refine s_i2l dX12_digest_136 ?_
    refine s_ladd dX12_digest_137 ?_
    refine s_lmul dX12_digest_138 ?_
    refine s_aload_n dX12_digest_139 rfl ?_
    refine s_gR dX12_digest_140 fX12_7 fun v5 => ?_
    refine s_bipush (v := 12) dX12_digest_143 (by decide) ?_
    refine s_iload_n dX12_digest_145 rfl ?_
    refine s_iadd dX12_digest_146 ?_
    refine s_aI dX12_digest_147 fun v6 => ?_
    refine s_i2l dX12_digest_148 ?_
    refine s_ladd dX12_digest_149 ?_
    refine s_lstore_n (lv' := [(1, .long (((31 : Int64) * (((31 : Int64) * x1) + (v4).toInt64)) + (v6).toInt64)), (0, .ref x0), (3, .int x3)]) dX12_digest_150 (by decide) rfl ?_
    refine s_iinc (lv' := [(3, .int (x3 + 1)), (1, .long (((31 : Int64) * (((31 : Int64) * x1) + (v4).toInt64)) + (v6).toInt64)), (0, .ref x0)]) dX12_digest_151 rfl (by decide) rfl ?_
    refine s_goto (tgt := 109) dX12_digest_154 (by decide) ?_
    refine s_locals [2, 1, 0] rfl ?_
    exact hR x0 (((31 : Int64) * (((31 : Int64) * x1) + (v4).toInt64)) + (v6).toInt64) (x3 + 1)
def WX12_digest_109 (K157 : Nat → Int64 → qP Int64) : Nat → Nat → Int64 → Int32 → qP Int64
  | 0 => fun _ _ _ => qfail
  | N + 1 => fun x0 x1 x3 => UX12_digest_109 (WX12_digest_109 K157 N) K157 x0 x1 x3
theorem WX12_digest_109_ok {l : Launch} {g : qG} {d n : Nat} {K157 : Nat → Int64 → qP Int64} (hK157 : ∀ (x0 : Nat) (x1 : Int64), qS l g mX12_digest (d + 1) n 0 0 0 0 cvL 157 [(0, .ref x0), (1, .long x1)] [] (K157 x0 x1)) : ∀ (N : Nat) (x0 : Nat) (x1 : Int64) (x3 : Int32), qS l g mX12_digest (d + 1) n 0 0 0 0 cvL 109 [(0, .ref x0), (1, .long x1), (3, .int x3)] [] (WX12_digest_109 K157 N x0 x1 x3) := by
  intro N
  induction N with
  | zero => intro x0 x1 x3; exact s_fail
  | succ N ih => intro x0 x1 x3; exact UX12_digest_109_ok ih hK157 x0 x1 x3
def UX12_digest_173 (R : Nat → Int64 → Int32 → qP Int64) (K221 : Nat → Int64 → qP Int64) (x0 : Nat) (x1 : Int64) (x3 : Int32) : qP Int64 :=
if (4 : Int32) ≤ x3 then (
K221 x0 x1) else (
qb (gR 12 x0 0) fun v1 =>
qb (aI v1 ((89 : Int32) + x3)) fun v2 =>
qb (gR 12 x0 0) fun v3 =>
qb (aI v3 ((89 : Int32) + x3)) fun v4 =>
qb (qcl 12 x0) fun _ => qb (FX12_mixed x0 (((31 : Int64) * x1) + (v2).toInt64) ((93 : Int32) + ((8 : Int32) * x3)) v4) fun v5 =>
R x0 v5 (x3 + 1))
set_option maxRecDepth 100000 in
set_option maxHeartbeats 4000000 in
theorem UX12_digest_173_ok {l : Launch} {g : qG} {d n : Nat} {R : Nat → Int64 → Int32 → qP Int64} (hR : ∀ (x0 : Nat) (x1 : Int64) (x3 : Int32), qS l g mX12_digest (d + 1) n 0 0 0 0 cvL 173 [(0, .ref x0), (1, .long x1), (3, .int x3)] [] (R x0 x1 x3)) {K221 : Nat → Int64 → qP Int64} (hK221 : ∀ (x0 : Nat) (x1 : Int64), qS l g mX12_digest (d + 1) n 0 0 0 0 cvL 221 [(0, .ref x0), (1, .long x1)] [] (K221 x0 x1)) (x0 : Nat) (x1 : Int64) (x3 : Int32) : qS l g mX12_digest (d + 1) n 0 0 0 0 cvL 173 [(0, .ref x0), (1, .long x1), (3, .int x3)] [] (UX12_digest_173 R K221 x0 x1 x3) := by
  unfold UX12_digest_173
  refine s_iload_n dX12_digest_173 rfl ?_
  refine s_iconst (v := 4) dX12_digest_174 (by decide) ?_
  refine s_icmp_ge (tgt := 221) dX12_digest_175 (by decide) (fun c1 => ?_) (fun c1 => ?_)
  · refine s_locals [0, 1] rfl ?_
    exact hK221 x0 x1
  · refine s_aload_n dX12_digest_178 rfl ?_
    refine s_ldc2 dX12_digest_179 lX12_263 ?_
    refine s_lload_n dX12_digest_182 rfl ?_
    refine s_lmul dX12_digest_183 ?_
    refine s_aload_n dX12_digest_184 rfl ?_
    refine s_gR dX12_digest_185 fX12_7 fun v1 => ?_
    refine s_bipush (v := 89) dX12_digest_188 (by decide) ?_
    refine s_iload_n dX12_digest_190 rfl ?_
    refine s_iadd dX12_digest_191 ?_
    refine s_aI dX12_digest_192 fun v2 => ?_
    refine s_i2l dX12_digest_193 ?_
    refine s_ladd dX12_digest_194 ?_
    refine s_bipush (v := 93) dX12_digest_195 (by decide) ?_
    refine s_bipush (v := 8) dX12_digest_197 (by decide) ?_
    refine s_iload_n dX12_digest_199 rfl ?_
    refine s_imul dX12_digest_200 ?_
    refine s_iadd dX12_digest_201 ?_
    refine s_aload_n dX12_digest_202 rfl ?_
    refine s_gR dX12_digest_203 fX12_7 fun v3 => ?_
    refine s_bipush (v := 89) dX12_digest_206 (by decide) ?_
    refine s_iload_n dX12_digest_208 rfl ?_
    refine s_iadd dX12_digest_209 ?_
    refine s_aI dX12_digest_210 fun v4 => ?_
    refine s_virtL (as := [.long (((31 : Int64) * x1) + (v2).toInt64), .int ((93 : Int32) + ((8 : Int32) * x3)), .int v4]) (rest := []) dX12_digest_211 vX12_267 (CX12_mixed _ _ _ _) (Nat.le_of_ble_eq_true rfl) ⟨Nat.le_refl _, Nat.le_refl _⟩ fun v5 => ?_
    refine s_lstore_n (lv' := [(1, .long v5), (0, .ref x0), (3, .int x3)]) dX12_digest_214 (by decide) rfl ?_
    refine s_iinc (lv' := [(3, .int (x3 + 1)), (1, .long v5), (0, .ref x0)]) dX12_digest_215 rfl (by decide) rfl ?_
    refine s_goto (tgt := 173) dX12_digest_218 (by decide) ?_
    refine s_locals [2, 1, 0] rfl ?_
    exact hR x0 v5 (x3 + 1)
def WX12_digest_173 (K221 : Nat → Int64 → qP Int64) : Nat → Nat → Int64 → Int32 → qP Int64
  | 0 => fun _ _ _ => qfail
  | N + 1 => fun x0 x1 x3 => UX12_digest_173 (WX12_digest_173 K221 N) K221 x0 x1 x3
theorem WX12_digest_173_ok {l : Launch} {g : qG} {d n : Nat} {K221 : Nat → Int64 → qP Int64} (hK221 : ∀ (x0 : Nat) (x1 : Int64), qS l g mX12_digest (d + 1) n 0 0 0 0 cvL 221 [(0, .ref x0), (1, .long x1)] [] (K221 x0 x1)) : ∀ (N : Nat) (x0 : Nat) (x1 : Int64) (x3 : Int32), qS l g mX12_digest (d + 1) n 0 0 0 0 cvL 173 [(0, .ref x0), (1, .long x1), (3, .int x3)] [] (WX12_digest_173 K221 N x0 x1 x3) := by
  intro N
  induction N with
  | zero => intro x0 x1 x3; exact s_fail
  | succ N ih => intro x0 x1 x3; exact UX12_digest_173_ok ih hK221 x0 x1 x3
def UX12_digest_221 (x0 : Nat) (x1 : Int64) : qP Int64 :=
qb (gR 12 x0 0) fun v1 =>
qb (aI v1 (4 : Int32)) fun v2 =>
qb (qcl 12 x0) fun _ => qb (FX12_mixed x0 x1 (125 : Int32) v2) fun v3 =>
qb (gR 12 x0 0) fun v4 =>
qb (aI v4 (5 : Int32)) fun v5 =>
qb (qcl 12 x0) fun _ => qb (FX12_mixed x0 v3 (129 : Int32) v5) fun v6 =>
qb (gL 12 x0 6) fun v7 =>
qb (gL 12 x0 7) fun v8 =>
qr (((31 : Int64) * (((31 : Int64) * v6) + v7)) + v8)
set_option maxRecDepth 100000 in
set_option maxHeartbeats 4000000 in
theorem UX12_digest_221_ok {l : Launch} {g : qG} {d n : Nat} (x0 : Nat) (x1 : Int64) : qS l g mX12_digest (d + 1) n 0 0 0 0 cvL 221 [(0, .ref x0), (1, .long x1)] [] (UX12_digest_221 x0 x1) := by
  unfold UX12_digest_221
  refine s_aload_n dX12_digest_221 rfl ?_
  refine s_lload_n dX12_digest_222 rfl ?_
  refine s_bipush (v := 125) dX12_digest_223 (by decide) ?_
  refine s_aload_n dX12_digest_225 rfl ?_
  refine s_gR dX12_digest_226 fX12_7 fun v1 => ?_
  refine s_iconst (v := 4) dX12_digest_229 (by decide) ?_
  refine s_aI dX12_digest_230 fun v2 => ?_
  refine s_virtL (as := [.long x1, .int (125 : Int32), .int v2]) (rest := []) dX12_digest_231 vX12_267 (CX12_mixed _ _ _ _) (Nat.le_of_ble_eq_true rfl) ⟨Nat.le_refl _, Nat.le_refl _⟩ fun v3 => ?_
  refine s_lstore_n (lv' := [(1, .long v3), (0, .ref x0)]) dX12_digest_234 (by decide) rfl ?_
  refine s_aload_n dX12_digest_235 rfl ?_
  refine s_lload_n dX12_digest_236 rfl ?_
  refine s_sipush (v := 129) dX12_digest_237 (by decide) ?_
  refine s_aload_n dX12_digest_240 rfl ?_
  refine s_gR dX12_digest_241 fX12_7 fun v4 => ?_
  refine s_iconst (v := 5) dX12_digest_244 (by decide) ?_
  refine s_aI dX12_digest_245 fun v5 => ?_
  refine s_virtL (as := [.long v3, .int (129 : Int32), .int v5]) (rest := []) dX12_digest_246 vX12_267 (CX12_mixed _ _ _ _) (Nat.le_of_ble_eq_true rfl) ⟨Nat.le_refl _, Nat.le_refl _⟩ fun v6 => ?_
  refine s_lstore_n (lv' := [(1, .long v6), (0, .ref x0)]) dX12_digest_249 (by decide) rfl ?_
  refine s_ldc2 dX12_digest_250 lX12_263 ?_
  refine s_ldc2 dX12_digest_253 lX12_263 ?_
  refine s_lload_n dX12_digest_256 rfl ?_
  refine s_lmul dX12_digest_257 ?_
  refine s_aload_n dX12_digest_258 rfl ?_
  refine s_gL dX12_digest_259 fX12_137 fun v7 => ?_
  refine s_ladd dX12_digest_262 ?_
  refine s_lmul dX12_digest_263 ?_
  refine s_aload_n dX12_digest_264 rfl ?_
  refine s_gL dX12_digest_265 fX12_47 fun v8 => ?_
  refine s_ladd dX12_digest_268 ?_
  exact s_lreturn dX12_digest_269 rfl
def UX12_digest_157 (x0 : Nat) (x1 : Int64) : qP Int64 :=
qb (gR 12 x0 0) fun v1 =>
qb (aI v1 (3 : Int32)) fun v2 =>
qb (qcl 12 x0) fun _ => qb (FX12_mixed x0 x1 (29 : Int32) v2) fun v3 =>
WX12_digest_173 (UX12_digest_221) 1000000 x0 v3 (0 : Int32)
set_option maxRecDepth 100000 in
set_option maxHeartbeats 4000000 in
theorem UX12_digest_157_ok {l : Launch} {g : qG} {d n : Nat} (x0 : Nat) (x1 : Int64) : qS l g mX12_digest (d + 1) n 0 0 0 0 cvL 157 [(0, .ref x0), (1, .long x1)] [] (UX12_digest_157 x0 x1) := by
  unfold UX12_digest_157
  refine s_aload_n dX12_digest_157 rfl ?_
  refine s_lload_n dX12_digest_158 rfl ?_
  refine s_bipush (v := 29) dX12_digest_159 (by decide) ?_
  refine s_aload_n dX12_digest_161 rfl ?_
  refine s_gR dX12_digest_162 fX12_7 fun v1 => ?_
  refine s_iconst (v := 3) dX12_digest_165 (by decide) ?_
  refine s_aI dX12_digest_166 fun v2 => ?_
  refine s_virtL (as := [.long x1, .int (29 : Int32), .int v2]) (rest := []) dX12_digest_167 vX12_267 (CX12_mixed _ _ _ _) (Nat.le_of_ble_eq_true rfl) ⟨Nat.le_refl _, Nat.le_refl _⟩ fun v3 => ?_
  refine s_lstore_n (lv' := [(1, .long v3), (0, .ref x0)]) dX12_digest_170 (by decide) rfl ?_
  refine s_iconst (v := 0) dX12_digest_171 (by decide) ?_
  refine s_istore_n (lv' := [(3, .int (0 : Int32)), (1, .long v3), (0, .ref x0)]) dX12_digest_172 (by decide) rfl ?_
  refine s_locals [2, 1, 0] rfl ?_
  exact WX12_digest_173_ok (UX12_digest_221_ok) 1000000 x0 v3 (0 : Int32)
def UX12_digest_107 (x0 : Nat) (x1 : Int64) : qP Int64 :=
WX12_digest_109 (UX12_digest_157) 1000000 x0 x1 (0 : Int32)
set_option maxRecDepth 100000 in
set_option maxHeartbeats 4000000 in
theorem UX12_digest_107_ok {l : Launch} {g : qG} {d n : Nat} (x0 : Nat) (x1 : Int64) : qS l g mX12_digest (d + 1) n 0 0 0 0 cvL 107 [(0, .ref x0), (1, .long x1)] [] (UX12_digest_107 x0 x1) := by
  unfold UX12_digest_107
  refine s_iconst (v := 0) dX12_digest_107 (by decide) ?_
  refine s_istore_n (lv' := [(3, .int (0 : Int32)), (0, .ref x0), (1, .long x1)]) dX12_digest_108 (by decide) rfl ?_
  refine s_locals [1, 2, 0] rfl ?_
  exact WX12_digest_109_ok (UX12_digest_157_ok) 1000000 x0 x1 (0 : Int32)
def UX12_digest_31 (x0 : Nat) (x1 : Int64) : qP Int64 :=
qb (qcl 12 x0) fun _ => qb (FX12_mixed x0 x1 (7 : Int32) (2 : Int32)) fun v1 =>
WX12_digest_42 (UX12_digest_107) 1000000 x0 v1 (0 : Int32)
set_option maxRecDepth 100000 in
set_option maxHeartbeats 4000000 in
theorem UX12_digest_31_ok {l : Launch} {g : qG} {d n : Nat} (x0 : Nat) (x1 : Int64) : qS l g mX12_digest (d + 1) n 0 0 0 0 cvL 31 [(0, .ref x0), (1, .long x1)] [] (UX12_digest_31 x0 x1) := by
  unfold UX12_digest_31
  refine s_aload_n dX12_digest_31 rfl ?_
  refine s_lload_n dX12_digest_32 rfl ?_
  refine s_bipush (v := 7) dX12_digest_33 (by decide) ?_
  refine s_iconst (v := 2) dX12_digest_35 (by decide) ?_
  refine s_virtL (as := [.long x1, .int (7 : Int32), .int (2 : Int32)]) (rest := []) dX12_digest_36 vX12_267 (CX12_mixed _ _ _ _) (Nat.le_of_ble_eq_true rfl) ⟨Nat.le_refl _, Nat.le_refl _⟩ fun v1 => ?_
  refine s_lstore_n (lv' := [(1, .long v1), (0, .ref x0)]) dX12_digest_39 (by decide) rfl ?_
  refine s_iconst (v := 0) dX12_digest_40 (by decide) ?_
  refine s_istore_n (lv' := [(3, .int (0 : Int32)), (1, .long v1), (0, .ref x0)]) dX12_digest_41 (by decide) rfl ?_
  refine s_locals [2, 1, 0] rfl ?_
  exact WX12_digest_42_ok (UX12_digest_107_ok) 1000000 x0 v1 (0 : Int32)
def FX12_digest (x0 : Nat) : qP Int64 :=
WX12_digest_6 (UX12_digest_31) 1000000 x0 (821 : Int64) (0 : Int32)
set_option maxRecDepth 100000 in
set_option maxHeartbeats 4000000 in
theorem FX12_digest_ok {l : Launch} {g : qG} {d n : Nat} (x0 : Nat) : qS l g mX12_digest (d + 1) n 0 0 0 0 cvL 0 [(0, .ref x0)] [] (FX12_digest x0) := by
  unfold FX12_digest
  refine s_ldc2 dX12_digest_0 lX12_265 ?_
  refine s_lstore_n (lv' := [(1, .long (821 : Int64)), (0, .ref x0)]) dX12_digest_3 (by decide) rfl ?_
  refine s_iconst (v := 0) dX12_digest_4 (by decide) ?_
  refine s_istore_n (lv' := [(3, .int (0 : Int32)), (1, .long (821 : Int64)), (0, .ref x0)]) dX12_digest_5 (by decide) rfl ?_
  refine s_locals [2, 1, 0] rfl ?_
  exact WX12_digest_6_ok (UX12_digest_31_ok) 1000000 x0 (821 : Int64) (0 : Int32)
theorem CX12_digest {l : Launch} {g : qG} {d : Nat} (x0 : Nat) : qCt l g mX12_digest (d + 1) 0 0 cvL [.ref x0] (FX12_digest x0) := s_of pn_X12 (Nat.le_of_ble_eq_true rfl) fun n => FX12_digest_ok x0

def UX12_broken_19 (R : Nat → Int32 → Int32 → Int64 → Int32 → qP Int32) (K38 : Nat → Int32 → Int32 → Int64 → qP Int32) (x0 : Nat) (x1 : Int32) (x2 : Int32) (x3 : Int64) (x5 : Int32) : qP Int32 :=
if x2 < x5 then (
K38 x0 x1 x2 x3) else (
R x0 x1 x2 (x3 ||| ((1 : Int64) <<< (x5.toInt64 &&& 63))) (x5 + 1))
set_option maxRecDepth 100000 in
set_option maxHeartbeats 4000000 in
theorem UX12_broken_19_ok {l : Launch} {g : qG} {d n : Nat} {R : Nat → Int32 → Int32 → Int64 → Int32 → qP Int32} (hR : ∀ (x0 : Nat) (x1 : Int32) (x2 : Int32) (x3 : Int64) (x5 : Int32), qS l g mX12_broken (d + 1) n 0 0 0 0 cvI 19 [(0, .ref x0), (1, .int x1), (2, .int x2), (3, .long x3), (5, .int x5)] [] (R x0 x1 x2 x3 x5)) {K38 : Nat → Int32 → Int32 → Int64 → qP Int32} (hK38 : ∀ (x0 : Nat) (x1 : Int32) (x2 : Int32) (x3 : Int64), qS l g mX12_broken (d + 1) n 0 0 0 0 cvI 38 [(0, .ref x0), (1, .int x1), (2, .int x2), (3, .long x3)] [] (K38 x0 x1 x2 x3)) (x0 : Nat) (x1 : Int32) (x2 : Int32) (x3 : Int64) (x5 : Int32) : qS l g mX12_broken (d + 1) n 0 0 0 0 cvI 19 [(0, .ref x0), (1, .int x1), (2, .int x2), (3, .long x3), (5, .int x5)] [] (UX12_broken_19 R K38 x0 x1 x2 x3 x5) := by
  unfold UX12_broken_19
  refine s_iload dX12_broken_19 rfl ?_
  refine s_iload_n dX12_broken_21 rfl ?_
  refine s_icmp_gt (tgt := 38) dX12_broken_22 (by decide) (fun c1 => ?_) (fun c1 => ?_)
  · refine s_locals [0, 1, 2, 3] rfl ?_
    exact hK38 x0 x1 x2 x3
  · refine s_lload_n dX12_broken_25 rfl ?_
    refine s_lconst (v := 1) dX12_broken_26 (by decide) ?_
    refine s_iload dX12_broken_27 rfl ?_
    refine s_lshl dX12_broken_29 ?_
    refine s_lor dX12_broken_30 ?_
    refine s_lstore_n (lv' := [(3, .long (x3 ||| ((1 : Int64) <<< (x5.toInt64 &&& 63)))), (0, .ref x0), (1, .int x1), (2, .int x2), (5, .int x5)]) dX12_broken_31 (by decide) rfl ?_
    refine s_iinc (lv' := [(5, .int (x5 + 1)), (3, .long (x3 ||| ((1 : Int64) <<< (x5.toInt64 &&& 63)))), (0, .ref x0), (1, .int x1), (2, .int x2)]) dX12_broken_32 rfl (by decide) rfl ?_
    refine s_goto (tgt := 19) dX12_broken_35 (by decide) ?_
    refine s_locals [2, 3, 4, 1, 0] rfl ?_
    exact hR x0 x1 x2 (x3 ||| ((1 : Int64) <<< (x5.toInt64 &&& 63))) (x5 + 1)
def WX12_broken_19 (K38 : Nat → Int32 → Int32 → Int64 → qP Int32) : Nat → Nat → Int32 → Int32 → Int64 → Int32 → qP Int32
  | 0 => fun _ _ _ _ _ => qfail
  | N + 1 => fun x0 x1 x2 x3 x5 => UX12_broken_19 (WX12_broken_19 K38 N) K38 x0 x1 x2 x3 x5
theorem WX12_broken_19_ok {l : Launch} {g : qG} {d n : Nat} {K38 : Nat → Int32 → Int32 → Int64 → qP Int32} (hK38 : ∀ (x0 : Nat) (x1 : Int32) (x2 : Int32) (x3 : Int64), qS l g mX12_broken (d + 1) n 0 0 0 0 cvI 38 [(0, .ref x0), (1, .int x1), (2, .int x2), (3, .long x3)] [] (K38 x0 x1 x2 x3)) : ∀ (N : Nat) (x0 : Nat) (x1 : Int32) (x2 : Int32) (x3 : Int64) (x5 : Int32), qS l g mX12_broken (d + 1) n 0 0 0 0 cvI 19 [(0, .ref x0), (1, .int x1), (2, .int x2), (3, .long x3), (5, .int x5)] [] (WX12_broken_19 K38 N x0 x1 x2 x3 x5) := by
  intro N
  induction N with
  | zero => intro x0 x1 x2 x3 x5; exact s_fail
  | succ N ih => intro x0 x1 x2 x3 x5; exact UX12_broken_19_ok ih hK38 x0 x1 x2 x3 x5
def UX12_broken_181 (R : Nat → Int32 → Int32 → Int64 → Int32 → Int32 → Int64 → Int32 → Int32 → qP Int32) (K190 : Nat → Int32 → Int32 → Int32 → Int64 → qP Int32) (x0 : Nat) (x1 : Int32) (x2 : Int32) (x3 : Int64) (x5 : Int32) (x6 : Int32) (x9 : Int32) (x10 : Int32) (s0 : Int64) (s1 : Int64) : qP Int32 :=
R x0 x1 x2 x3 x5 x6 (s0 ||| s1) x9 (x10 + 1)
set_option maxRecDepth 100000 in
set_option maxHeartbeats 4000000 in
theorem UX12_broken_181_ok {l : Launch} {g : qG} {d n : Nat} {R : Nat → Int32 → Int32 → Int64 → Int32 → Int32 → Int64 → Int32 → Int32 → qP Int32} (hR : ∀ (x0 : Nat) (x1 : Int32) (x2 : Int32) (x3 : Int64) (x5 : Int32) (x6 : Int32) (x7 : Int64) (x9 : Int32) (x10 : Int32), qS l g mX12_broken (d + 1) n 0 0 0 0 cvI 81 [(0, .ref x0), (1, .int x1), (2, .int x2), (3, .long x3), (5, .int x5), (6, .int x6), (7, .long x7), (9, .int x9), (10, .int x10)] [] (R x0 x1 x2 x3 x5 x6 x7 x9 x10)) {K190 : Nat → Int32 → Int32 → Int32 → Int64 → qP Int32} (hK190 : ∀ (x0 : Nat) (x1 : Int32) (x2 : Int32) (x5 : Int32) (x7 : Int64), qS l g mX12_broken (d + 1) n 0 0 0 0 cvI 190 [(0, .ref x0), (1, .int x1), (2, .int x2), (5, .int x5), (7, .long x7)] [] (K190 x0 x1 x2 x5 x7)) (x0 : Nat) (x1 : Int32) (x2 : Int32) (x3 : Int64) (x5 : Int32) (x6 : Int32) (x9 : Int32) (x10 : Int32) (s0 : Int64) (s1 : Int64) : qS l g mX12_broken (d + 1) n 0 0 0 0 cvI 181 [(0, .ref x0), (1, .int x1), (2, .int x2), (3, .long x3), (5, .int x5), (6, .int x6), (9, .int x9), (10, .int x10)] [.long s1, .long s0] (UX12_broken_181 R K190 x0 x1 x2 x3 x5 x6 x9 x10 s0 s1) := by
  unfold UX12_broken_181
  refine s_lor dX12_broken_181 ?_
  refine s_lstore (lv' := [(7, .long (s0 ||| s1)), (0, .ref x0), (1, .int x1), (2, .int x2), (3, .long x3), (5, .int x5), (6, .int x6), (9, .int x9), (10, .int x10)]) dX12_broken_182 (by decide) rfl ?_
  refine s_iinc (lv' := [(10, .int (x10 + 1)), (7, .long (s0 ||| s1)), (0, .ref x0), (1, .int x1), (2, .int x2), (3, .long x3), (5, .int x5), (6, .int x6), (9, .int x9)]) dX12_broken_184 rfl (by decide) rfl ?_
  refine s_goto (tgt := 81) dX12_broken_187 (by decide) ?_
  refine s_locals [2, 3, 4, 5, 6, 7, 1, 8, 0] rfl ?_
  exact hR x0 x1 x2 x3 x5 x6 (s0 ||| s1) x9 (x10 + 1)
def UX12_broken_162 (R : Nat → Int32 → Int32 → Int64 → Int32 → Int32 → Int64 → Int32 → Int32 → qP Int32) (K190 : Nat → Int32 → Int32 → Int32 → Int64 → qP Int32) (x0 : Nat) (x1 : Int32) (x2 : Int32) (x3 : Int64) (x5 : Int32) (x6 : Int32) (x7 : Int64) (x9 : Int32) (x10 : Int32) (s0 : Int32) : qP Int32 :=
if s0 = 0 then (
UX12_broken_181 R K190 x0 x1 x2 x3 x5 x6 x9 x10 x7 (0 : Int64)) else (
UX12_broken_181 R K190 x0 x1 x2 x3 x5 x6 x9 x10 x7 ((1 : Int64) <<< ((x10 + (1 : Int32)).toInt64 &&& 63)))
set_option maxRecDepth 100000 in
set_option maxHeartbeats 4000000 in
theorem UX12_broken_162_ok {l : Launch} {g : qG} {d n : Nat} {R : Nat → Int32 → Int32 → Int64 → Int32 → Int32 → Int64 → Int32 → Int32 → qP Int32} (hR : ∀ (x0 : Nat) (x1 : Int32) (x2 : Int32) (x3 : Int64) (x5 : Int32) (x6 : Int32) (x7 : Int64) (x9 : Int32) (x10 : Int32), qS l g mX12_broken (d + 1) n 0 0 0 0 cvI 81 [(0, .ref x0), (1, .int x1), (2, .int x2), (3, .long x3), (5, .int x5), (6, .int x6), (7, .long x7), (9, .int x9), (10, .int x10)] [] (R x0 x1 x2 x3 x5 x6 x7 x9 x10)) {K190 : Nat → Int32 → Int32 → Int32 → Int64 → qP Int32} (hK190 : ∀ (x0 : Nat) (x1 : Int32) (x2 : Int32) (x5 : Int32) (x7 : Int64), qS l g mX12_broken (d + 1) n 0 0 0 0 cvI 190 [(0, .ref x0), (1, .int x1), (2, .int x2), (5, .int x5), (7, .long x7)] [] (K190 x0 x1 x2 x5 x7)) (x0 : Nat) (x1 : Int32) (x2 : Int32) (x3 : Int64) (x5 : Int32) (x6 : Int32) (x7 : Int64) (x9 : Int32) (x10 : Int32) (s0 : Int32) : qS l g mX12_broken (d + 1) n 0 0 0 0 cvI 162 [(0, .ref x0), (1, .int x1), (2, .int x2), (3, .long x3), (5, .int x5), (6, .int x6), (7, .long x7), (9, .int x9), (10, .int x10)] [.int s0] (UX12_broken_162 R K190 x0 x1 x2 x3 x5 x6 x7 x9 x10 s0) := by
  unfold UX12_broken_162
  refine s_istore (lv' := [(12, .int s0), (0, .ref x0), (1, .int x1), (2, .int x2), (3, .long x3), (5, .int x5), (6, .int x6), (7, .long x7), (9, .int x9), (10, .int x10)]) dX12_broken_162 (by decide) rfl ?_
  refine s_lload dX12_broken_164 rfl ?_
  refine s_iload dX12_broken_166 rfl ?_
  refine s_if_eq (tgt := 180) dX12_broken_168 (by decide) (fun c1 => ?_) (fun c1 => ?_)
  · refine s_lconst (v := 0) dX12_broken_180 (by decide) ?_
    refine s_locals [1, 2, 3, 4, 5, 6, 8, 9] rfl ?_
    exact UX12_broken_181_ok hR hK190 x0 x1 x2 x3 x5 x6 x9 x10 x7 (0 : Int64)
  · refine s_lconst (v := 1) dX12_broken_171 (by decide) ?_
    refine s_iload dX12_broken_172 rfl ?_
    refine s_iconst (v := 1) dX12_broken_174 (by decide) ?_
    refine s_iadd dX12_broken_175 ?_
    refine s_lshl dX12_broken_176 ?_
    refine s_goto (tgt := 181) dX12_broken_177 (by decide) ?_
    refine s_locals [1, 2, 3, 4, 5, 6, 8, 9] rfl ?_
    exact UX12_broken_181_ok hR hK190 x0 x1 x2 x3 x5 x6 x9 x10 x7 ((1 : Int64) <<< ((x10 + (1 : Int32)).toInt64 &&& 63))
def UX12_broken_120 (R : Nat → Int32 → Int32 → Int64 → Int32 → Int32 → Int64 → Int32 → Int32 → qP Int32) (K190 : Nat → Int32 → Int32 → Int32 → Int64 → qP Int32) (x0 : Nat) (x1 : Int32) (x2 : Int32) (x3 : Int64) (x5 : Int32) (x6 : Int32) (x7 : Int64) (x10 : Int32) (x11 : Int32) (s0 : Int32) : qP Int32 :=
if x6 = (27 : Int32) then (
UX12_broken_162 R K190 x0 x1 x2 x3 x5 x6 x7 s0 x10 s0) else (
if x11 = 0 then (
UX12_broken_162 R K190 x0 x1 x2 x3 x5 x6 x7 s0 x10 (0 : Int32)) else (
if x6 = (26 : Int32) then (
UX12_broken_162 R K190 x0 x1 x2 x3 x5 x6 x7 s0 x10 (1 : Int32)) else (
qb (qcl 12 x0) fun _ => qb (FX12_signAt x0 x10) fun v1 =>
if v1 = x6 then (
UX12_broken_162 R K190 x0 x1 x2 x3 x5 x6 x7 s0 x10 (1 : Int32)) else (
UX12_broken_162 R K190 x0 x1 x2 x3 x5 x6 x7 s0 x10 (0 : Int32)))))
set_option maxRecDepth 100000 in
set_option maxHeartbeats 4000000 in
theorem UX12_broken_120_ok {l : Launch} {g : qG} {d n : Nat} {R : Nat → Int32 → Int32 → Int64 → Int32 → Int32 → Int64 → Int32 → Int32 → qP Int32} (hR : ∀ (x0 : Nat) (x1 : Int32) (x2 : Int32) (x3 : Int64) (x5 : Int32) (x6 : Int32) (x7 : Int64) (x9 : Int32) (x10 : Int32), qS l g mX12_broken (d + 1) n 0 0 0 0 cvI 81 [(0, .ref x0), (1, .int x1), (2, .int x2), (3, .long x3), (5, .int x5), (6, .int x6), (7, .long x7), (9, .int x9), (10, .int x10)] [] (R x0 x1 x2 x3 x5 x6 x7 x9 x10)) {K190 : Nat → Int32 → Int32 → Int32 → Int64 → qP Int32} (hK190 : ∀ (x0 : Nat) (x1 : Int32) (x2 : Int32) (x5 : Int32) (x7 : Int64), qS l g mX12_broken (d + 1) n 0 0 0 0 cvI 190 [(0, .ref x0), (1, .int x1), (2, .int x2), (5, .int x5), (7, .long x7)] [] (K190 x0 x1 x2 x5 x7)) (x0 : Nat) (x1 : Int32) (x2 : Int32) (x3 : Int64) (x5 : Int32) (x6 : Int32) (x7 : Int64) (x10 : Int32) (x11 : Int32) (s0 : Int32) : qS l g mX12_broken (d + 1) n 0 0 0 0 cvI 120 [(0, .ref x0), (1, .int x1), (2, .int x2), (3, .long x3), (5, .int x5), (6, .int x6), (7, .long x7), (10, .int x10), (11, .int x11)] [.int s0] (UX12_broken_120 R K190 x0 x1 x2 x3 x5 x6 x7 x10 x11 s0) := by
  unfold UX12_broken_120
  refine s_istore (lv' := [(9, .int s0), (0, .ref x0), (1, .int x1), (2, .int x2), (3, .long x3), (5, .int x5), (6, .int x6), (7, .long x7), (10, .int x10), (11, .int x11)]) dX12_broken_120 (by decide) rfl ?_
  refine s_iload dX12_broken_122 rfl ?_
  refine s_bipush (v := 27) dX12_broken_124 (by decide) ?_
  refine s_icmp_ne (tgt := 134) dX12_broken_126 (by decide) (fun c1 => ?_) (fun c1 => ?_)
  · refine s_iload dX12_broken_129 rfl ?_
    refine s_goto (tgt := 162) dX12_broken_131 (by decide) ?_
    refine s_locals [1, 2, 3, 4, 5, 6, 7, 0, 8] rfl ?_
    exact UX12_broken_162_ok hR hK190 x0 x1 x2 x3 x5 x6 x7 s0 x10 s0
  · refine s_iload dX12_broken_134 rfl ?_
    refine s_if_eq (tgt := 161) dX12_broken_136 (by decide) (fun c2 => ?_) (fun c2 => ?_)
    · refine s_iconst (v := 0) dX12_broken_161 (by decide) ?_
      refine s_locals [1, 2, 3, 4, 5, 6, 7, 0, 8] rfl ?_
      exact UX12_broken_162_ok hR hK190 x0 x1 x2 x3 x5 x6 x7 s0 x10 (0 : Int32)
    · refine s_iload dX12_broken_139 rfl ?_
      refine s_bipush (v := 26) dX12_broken_141 (by decide) ?_
      refine s_icmp_eq (tgt := 157) dX12_broken_143 (by decide) (fun c3 => ?_) (fun c3 => ?_)
      · refine s_iconst (v := 1) dX12_broken_157 (by decide) ?_
        refine s_goto (tgt := 162) dX12_broken_158 (by decide) ?_
        refine s_locals [1, 2, 3, 4, 5, 6, 7, 0, 8] rfl ?_
        exact UX12_broken_162_ok hR hK190 x0 x1 x2 x3 x5 x6 x7 s0 x10 (1 : Int32)
      · refine s_aload_n dX12_broken_146 rfl ?_
        refine s_iload dX12_broken_147 rfl ?_
        refine s_virtI (as := [.int x10]) (rest := []) dX12_broken_149 vX12_148 (CX12_signAt _ _) (Nat.le_of_ble_eq_true rfl) ⟨Nat.le_refl _, Nat.le_refl _⟩ fun v1 => ?_
        refine s_iload dX12_broken_152 rfl ?_
        refine s_icmp_ne (tgt := 161) dX12_broken_154 (by decide) (fun c4 => ?_) (fun c4 => ?_)
        · refine s_iconst (v := 1) dX12_broken_157 (by decide) ?_
          refine s_goto (tgt := 162) dX12_broken_158 (by decide) ?_
          refine s_locals [1, 2, 3, 4, 5, 6, 7, 0, 8] rfl ?_
          exact UX12_broken_162_ok hR hK190 x0 x1 x2 x3 x5 x6 x7 s0 x10 (1 : Int32)
        · refine s_iconst (v := 0) dX12_broken_161 (by decide) ?_
          refine s_locals [1, 2, 3, 4, 5, 6, 7, 0, 8] rfl ?_
          exact UX12_broken_162_ok hR hK190 x0 x1 x2 x3 x5 x6 x7 s0 x10 (0 : Int32)
def UX12_broken_103 (R : Nat → Int32 → Int32 → Int64 → Int32 → Int32 → Int64 → Int32 → Int32 → qP Int32) (K190 : Nat → Int32 → Int32 → Int32 → Int64 → qP Int32) (x0 : Nat) (x1 : Int32) (x2 : Int32) (x3 : Int64) (x5 : Int32) (x6 : Int32) (x7 : Int64) (x9 : Int32) (x10 : Int32) (s0 : Int32) : qP Int32 :=
if x9 = 0 then (
if s0 = 0 then (
UX12_broken_120 R K190 x0 x1 x2 x3 x5 x6 x7 x10 s0 (0 : Int32)) else (
UX12_broken_120 R K190 x0 x1 x2 x3 x5 x6 x7 x10 s0 (1 : Int32))) else (
UX12_broken_120 R K190 x0 x1 x2 x3 x5 x6 x7 x10 s0 (1 : Int32))
set_option maxRecDepth 100000 in
set_option maxHeartbeats 4000000 in
theorem UX12_broken_103_ok {l : Launch} {g : qG} {d n : Nat} {R : Nat → Int32 → Int32 → Int64 → Int32 → Int32 → Int64 → Int32 → Int32 → qP Int32} (hR : ∀ (x0 : Nat) (x1 : Int32) (x2 : Int32) (x3 : Int64) (x5 : Int32) (x6 : Int32) (x7 : Int64) (x9 : Int32) (x10 : Int32), qS l g mX12_broken (d + 1) n 0 0 0 0 cvI 81 [(0, .ref x0), (1, .int x1), (2, .int x2), (3, .long x3), (5, .int x5), (6, .int x6), (7, .long x7), (9, .int x9), (10, .int x10)] [] (R x0 x1 x2 x3 x5 x6 x7 x9 x10)) {K190 : Nat → Int32 → Int32 → Int32 → Int64 → qP Int32} (hK190 : ∀ (x0 : Nat) (x1 : Int32) (x2 : Int32) (x5 : Int32) (x7 : Int64), qS l g mX12_broken (d + 1) n 0 0 0 0 cvI 190 [(0, .ref x0), (1, .int x1), (2, .int x2), (5, .int x5), (7, .long x7)] [] (K190 x0 x1 x2 x5 x7)) (x0 : Nat) (x1 : Int32) (x2 : Int32) (x3 : Int64) (x5 : Int32) (x6 : Int32) (x7 : Int64) (x9 : Int32) (x10 : Int32) (s0 : Int32) : qS l g mX12_broken (d + 1) n 0 0 0 0 cvI 103 [(0, .ref x0), (1, .int x1), (2, .int x2), (3, .long x3), (5, .int x5), (6, .int x6), (7, .long x7), (9, .int x9), (10, .int x10)] [.int s0] (UX12_broken_103 R K190 x0 x1 x2 x3 x5 x6 x7 x9 x10 s0) := by
  unfold UX12_broken_103
  refine s_istore (lv' := [(11, .int s0), (0, .ref x0), (1, .int x1), (2, .int x2), (3, .long x3), (5, .int x5), (6, .int x6), (7, .long x7), (9, .int x9), (10, .int x10)]) dX12_broken_103 (by decide) rfl ?_
  refine s_iload dX12_broken_105 rfl ?_
  refine s_if_ne (tgt := 115) dX12_broken_107 (by decide) (fun c1 => ?_) (fun c1 => ?_)
  · refine s_iload dX12_broken_110 rfl ?_
    refine s_if_eq (tgt := 119) dX12_broken_112 (by decide) (fun c2 => ?_) (fun c2 => ?_)
    · refine s_iconst (v := 0) dX12_broken_119 (by decide) ?_
      refine s_locals [1, 2, 3, 4, 5, 6, 7, 9, 0] rfl ?_
      exact UX12_broken_120_ok hR hK190 x0 x1 x2 x3 x5 x6 x7 x10 s0 (0 : Int32)
    · refine s_iconst (v := 1) dX12_broken_115 (by decide) ?_
      refine s_goto (tgt := 120) dX12_broken_116 (by decide) ?_
      refine s_locals [1, 2, 3, 4, 5, 6, 7, 9, 0] rfl ?_
      exact UX12_broken_120_ok hR hK190 x0 x1 x2 x3 x5 x6 x7 x10 s0 (1 : Int32)
  · refine s_iconst (v := 1) dX12_broken_115 (by decide) ?_
    refine s_goto (tgt := 120) dX12_broken_116 (by decide) ?_
    refine s_locals [1, 2, 3, 4, 5, 6, 7, 9, 0] rfl ?_
    exact UX12_broken_120_ok hR hK190 x0 x1 x2 x3 x5 x6 x7 x10 s0 (1 : Int32)
def UX12_broken_81 (R : Nat → Int32 → Int32 → Int64 → Int32 → Int32 → Int64 → Int32 → Int32 → qP Int32) (K190 : Nat → Int32 → Int32 → Int32 → Int64 → qP Int32) (x0 : Nat) (x1 : Int32) (x2 : Int32) (x3 : Int64) (x5 : Int32) (x6 : Int32) (x7 : Int64) (x9 : Int32) (x10 : Int32) : qP Int32 :=
if x2 ≤ x10 then (
K190 x0 x1 x2 x5 x7) else (
if (lg_cmp ((x3 >>> (x10.toInt64 &&& 63)) &&& (1 : Int64)) (1 : Int64)) = 0 then (
UX12_broken_103 R K190 x0 x1 x2 x3 x5 x6 x7 x9 x10 (1 : Int32)) else (
UX12_broken_103 R K190 x0 x1 x2 x3 x5 x6 x7 x9 x10 (0 : Int32)))
set_option maxRecDepth 100000 in
set_option maxHeartbeats 4000000 in
theorem UX12_broken_81_ok {l : Launch} {g : qG} {d n : Nat} {R : Nat → Int32 → Int32 → Int64 → Int32 → Int32 → Int64 → Int32 → Int32 → qP Int32} (hR : ∀ (x0 : Nat) (x1 : Int32) (x2 : Int32) (x3 : Int64) (x5 : Int32) (x6 : Int32) (x7 : Int64) (x9 : Int32) (x10 : Int32), qS l g mX12_broken (d + 1) n 0 0 0 0 cvI 81 [(0, .ref x0), (1, .int x1), (2, .int x2), (3, .long x3), (5, .int x5), (6, .int x6), (7, .long x7), (9, .int x9), (10, .int x10)] [] (R x0 x1 x2 x3 x5 x6 x7 x9 x10)) {K190 : Nat → Int32 → Int32 → Int32 → Int64 → qP Int32} (hK190 : ∀ (x0 : Nat) (x1 : Int32) (x2 : Int32) (x5 : Int32) (x7 : Int64), qS l g mX12_broken (d + 1) n 0 0 0 0 cvI 190 [(0, .ref x0), (1, .int x1), (2, .int x2), (5, .int x5), (7, .long x7)] [] (K190 x0 x1 x2 x5 x7)) (x0 : Nat) (x1 : Int32) (x2 : Int32) (x3 : Int64) (x5 : Int32) (x6 : Int32) (x7 : Int64) (x9 : Int32) (x10 : Int32) : qS l g mX12_broken (d + 1) n 0 0 0 0 cvI 81 [(0, .ref x0), (1, .int x1), (2, .int x2), (3, .long x3), (5, .int x5), (6, .int x6), (7, .long x7), (9, .int x9), (10, .int x10)] [] (UX12_broken_81 R K190 x0 x1 x2 x3 x5 x6 x7 x9 x10) := by
  unfold UX12_broken_81
  refine s_iload dX12_broken_81 rfl ?_
  refine s_iload_n dX12_broken_83 rfl ?_
  refine s_icmp_ge (tgt := 190) dX12_broken_84 (by decide) (fun c1 => ?_) (fun c1 => ?_)
  · refine s_locals [0, 1, 2, 4, 6] rfl ?_
    exact hK190 x0 x1 x2 x5 x7
  · refine s_lload_n dX12_broken_87 rfl ?_
    refine s_iload dX12_broken_88 rfl ?_
    refine s_lshr dX12_broken_90 ?_
    refine s_lconst (v := 1) dX12_broken_91 (by decide) ?_
    refine s_land dX12_broken_92 ?_
    refine s_lconst (v := 1) dX12_broken_93 (by decide) ?_
    refine s_lcmp dX12_broken_94 ?_
    refine s_if_ne (tgt := 102) dX12_broken_95 (by decide) (fun c2 => ?_) (fun c2 => ?_)
    · refine s_iconst (v := 1) dX12_broken_98 (by decide) ?_
      refine s_goto (tgt := 103) dX12_broken_99 (by decide) ?_
      exact UX12_broken_103_ok hR hK190 x0 x1 x2 x3 x5 x6 x7 x9 x10 (1 : Int32)
    · refine s_iconst (v := 0) dX12_broken_102 (by decide) ?_
      exact UX12_broken_103_ok hR hK190 x0 x1 x2 x3 x5 x6 x7 x9 x10 (0 : Int32)
def WX12_broken_81 (K190 : Nat → Int32 → Int32 → Int32 → Int64 → qP Int32) : Nat → Nat → Int32 → Int32 → Int64 → Int32 → Int32 → Int64 → Int32 → Int32 → qP Int32
  | 0 => fun _ _ _ _ _ _ _ _ _ => qfail
  | N + 1 => fun x0 x1 x2 x3 x5 x6 x7 x9 x10 => UX12_broken_81 (WX12_broken_81 K190 N) K190 x0 x1 x2 x3 x5 x6 x7 x9 x10
theorem WX12_broken_81_ok {l : Launch} {g : qG} {d n : Nat} {K190 : Nat → Int32 → Int32 → Int32 → Int64 → qP Int32} (hK190 : ∀ (x0 : Nat) (x1 : Int32) (x2 : Int32) (x5 : Int32) (x7 : Int64), qS l g mX12_broken (d + 1) n 0 0 0 0 cvI 190 [(0, .ref x0), (1, .int x1), (2, .int x2), (5, .int x5), (7, .long x7)] [] (K190 x0 x1 x2 x5 x7)) : ∀ (N : Nat) (x0 : Nat) (x1 : Int32) (x2 : Int32) (x3 : Int64) (x5 : Int32) (x6 : Int32) (x7 : Int64) (x9 : Int32) (x10 : Int32), qS l g mX12_broken (d + 1) n 0 0 0 0 cvI 81 [(0, .ref x0), (1, .int x1), (2, .int x2), (3, .long x3), (5, .int x5), (6, .int x6), (7, .long x7), (9, .int x9), (10, .int x10)] [] (WX12_broken_81 K190 N x0 x1 x2 x3 x5 x6 x7 x9 x10) := by
  intro N
  induction N with
  | zero => intro x0 x1 x2 x3 x5 x6 x7 x9 x10; exact s_fail
  | succ N ih => intro x0 x1 x2 x3 x5 x6 x7 x9 x10; exact UX12_broken_81_ok ih hK190 x0 x1 x2 x3 x5 x6 x7 x9 x10
def UX12_broken_190 (R : Nat → Int32 → Int32 → Int64 → Int32 → qP Int32) (K199 : Int32 → Int64 → qP Int32) (x0 : Nat) (x1 : Int32) (x2 : Int32) (x5 : Int32) (x7 : Int64) : qP Int32 :=
R x0 x1 x2 x7 (x5 + 1)
set_option maxRecDepth 100000 in
set_option maxHeartbeats 4000000 in
theorem UX12_broken_190_ok {l : Launch} {g : qG} {d n : Nat} {R : Nat → Int32 → Int32 → Int64 → Int32 → qP Int32} (hR : ∀ (x0 : Nat) (x1 : Int32) (x2 : Int32) (x3 : Int64) (x5 : Int32), qS l g mX12_broken (d + 1) n 0 0 0 0 cvI 41 [(0, .ref x0), (1, .int x1), (2, .int x2), (3, .long x3), (5, .int x5)] [] (R x0 x1 x2 x3 x5)) {K199 : Int32 → Int64 → qP Int32} (hK199 : ∀ (x2 : Int32) (x3 : Int64), qS l g mX12_broken (d + 1) n 0 0 0 0 cvI 199 [(2, .int x2), (3, .long x3)] [] (K199 x2 x3)) (x0 : Nat) (x1 : Int32) (x2 : Int32) (x5 : Int32) (x7 : Int64) : qS l g mX12_broken (d + 1) n 0 0 0 0 cvI 190 [(0, .ref x0), (1, .int x1), (2, .int x2), (5, .int x5), (7, .long x7)] [] (UX12_broken_190 R K199 x0 x1 x2 x5 x7) := by
  unfold UX12_broken_190
  refine s_lload dX12_broken_190 rfl ?_
  refine s_lstore_n (lv' := [(3, .long x7), (0, .ref x0), (1, .int x1), (2, .int x2), (5, .int x5), (7, .long x7)]) dX12_broken_192 (by decide) rfl ?_
  refine s_iinc (lv' := [(5, .int (x5 + 1)), (3, .long x7), (0, .ref x0), (1, .int x1), (2, .int x2), (7, .long x7)]) dX12_broken_193 rfl (by decide) rfl ?_
  refine s_goto (tgt := 41) dX12_broken_196 (by decide) ?_
  refine s_locals [2, 3, 4, 1, 0] rfl ?_
  exact hR x0 x1 x2 x7 (x5 + 1)
def UX12_broken_41 (R : Nat → Int32 → Int32 → Int64 → Int32 → qP Int32) (K199 : Int32 → Int64 → qP Int32) (x0 : Nat) (x1 : Int32) (x2 : Int32) (x3 : Int64) (x5 : Int32) : qP Int32 :=
qb (gR 12 x0 0) fun v1 =>
qb (aI v1 ((89 : Int32) + x1)) fun v2 =>
if v2 ≤ x5 then (
K199 x2 x3) else (
qb (gR 12 x0 0) fun v3 =>
qb (aI v3 (((93 : Int32) + ((8 : Int32) * x1)) + x5)) fun v4 =>
WX12_broken_81 (UX12_broken_190 R K199) 1000000 x0 x1 x2 x3 x5 v4 (0 : Int64) (0 : Int32) (0 : Int32))
set_option maxRecDepth 100000 in
set_option maxHeartbeats 4000000 in
theorem UX12_broken_41_ok {l : Launch} {g : qG} {d n : Nat} {R : Nat → Int32 → Int32 → Int64 → Int32 → qP Int32} (hR : ∀ (x0 : Nat) (x1 : Int32) (x2 : Int32) (x3 : Int64) (x5 : Int32), qS l g mX12_broken (d + 1) n 0 0 0 0 cvI 41 [(0, .ref x0), (1, .int x1), (2, .int x2), (3, .long x3), (5, .int x5)] [] (R x0 x1 x2 x3 x5)) {K199 : Int32 → Int64 → qP Int32} (hK199 : ∀ (x2 : Int32) (x3 : Int64), qS l g mX12_broken (d + 1) n 0 0 0 0 cvI 199 [(2, .int x2), (3, .long x3)] [] (K199 x2 x3)) (x0 : Nat) (x1 : Int32) (x2 : Int32) (x3 : Int64) (x5 : Int32) : qS l g mX12_broken (d + 1) n 0 0 0 0 cvI 41 [(0, .ref x0), (1, .int x1), (2, .int x2), (3, .long x3), (5, .int x5)] [] (UX12_broken_41 R K199 x0 x1 x2 x3 x5) := by
  unfold UX12_broken_41
  refine s_iload dX12_broken_41 rfl ?_
  refine s_aload_n dX12_broken_43 rfl ?_
  refine s_gR dX12_broken_44 fX12_7 fun v1 => ?_
  refine s_bipush (v := 89) dX12_broken_47 (by decide) ?_
  refine s_iload_n dX12_broken_49 rfl ?_
  refine s_iadd dX12_broken_50 ?_
  refine s_aI dX12_broken_51 fun v2 => ?_
  refine s_icmp_ge (tgt := 199) dX12_broken_52 (by decide) (fun c1 => ?_) (fun c1 => ?_)
  · refine s_locals [2, 3] rfl ?_
    exact hK199 x2 x3
  · refine s_aload_n dX12_broken_55 rfl ?_
    refine s_gR dX12_broken_56 fX12_7 fun v3 => ?_
    refine s_bipush (v := 93) dX12_broken_59 (by decide) ?_
    refine s_bipush (v := 8) dX12_broken_61 (by decide) ?_
    refine s_iload_n dX12_broken_63 rfl ?_
    refine s_imul dX12_broken_64 ?_
    refine s_iadd dX12_broken_65 ?_
    refine s_iload dX12_broken_66 rfl ?_
    refine s_iadd dX12_broken_68 ?_
    refine s_aI dX12_broken_69 fun v4 => ?_
    refine s_istore (lv' := [(6, .int v4), (0, .ref x0), (1, .int x1), (2, .int x2), (3, .long x3), (5, .int x5)]) dX12_broken_70 (by decide) rfl ?_
    refine s_lconst (v := 0) dX12_broken_72 (by decide) ?_
    refine s_lstore (lv' := [(7, .long (0 : Int64)), (6, .int v4), (0, .ref x0), (1, .int x1), (2, .int x2), (3, .long x3), (5, .int x5)]) dX12_broken_73 (by decide) rfl ?_
    refine s_iconst (v := 0) dX12_broken_75 (by decide) ?_
    refine s_istore (lv' := [(9, .int (0 : Int32)), (7, .long (0 : Int64)), (6, .int v4), (0, .ref x0), (1, .int x1), (2, .int x2), (3, .long x3), (5, .int x5)]) dX12_broken_76 (by decide) rfl ?_
    refine s_iconst (v := 0) dX12_broken_78 (by decide) ?_
    refine s_istore (lv' := [(10, .int (0 : Int32)), (9, .int (0 : Int32)), (7, .long (0 : Int64)), (6, .int v4), (0, .ref x0), (1, .int x1), (2, .int x2), (3, .long x3), (5, .int x5)]) dX12_broken_79 (by decide) rfl ?_
    refine s_locals [4, 5, 6, 7, 8, 3, 2, 1, 0] rfl ?_
    exact WX12_broken_81_ok (UX12_broken_190_ok hR hK199) 1000000 x0 x1 x2 x3 x5 v4 (0 : Int64) (0 : Int32) (0 : Int32)
def WX12_broken_41 (K199 : Int32 → Int64 → qP Int32) : Nat → Nat → Int32 → Int32 → Int64 → Int32 → qP Int32
  | 0 => fun _ _ _ _ _ => qfail
  | N + 1 => fun x0 x1 x2 x3 x5 => UX12_broken_41 (WX12_broken_41 K199 N) K199 x0 x1 x2 x3 x5
theorem WX12_broken_41_ok {l : Launch} {g : qG} {d n : Nat} {K199 : Int32 → Int64 → qP Int32} (hK199 : ∀ (x2 : Int32) (x3 : Int64), qS l g mX12_broken (d + 1) n 0 0 0 0 cvI 199 [(2, .int x2), (3, .long x3)] [] (K199 x2 x3)) : ∀ (N : Nat) (x0 : Nat) (x1 : Int32) (x2 : Int32) (x3 : Int64) (x5 : Int32), qS l g mX12_broken (d + 1) n 0 0 0 0 cvI 41 [(0, .ref x0), (1, .int x1), (2, .int x2), (3, .long x3), (5, .int x5)] [] (WX12_broken_41 K199 N x0 x1 x2 x3 x5) := by
  intro N
  induction N with
  | zero => intro x0 x1 x2 x3 x5; exact s_fail
  | succ N ih => intro x0 x1 x2 x3 x5; exact UX12_broken_41_ok ih hK199 x0 x1 x2 x3 x5
def UX12_broken_205 (R : Int64 → Int32 → Int32 → qP Int32) (x3 : Int64) (x5 : Int32) (x6 : Int32) : qP Int32 :=
if x6 ≤ 0 then (
qr x5) else (
if (lg_cmp ((x3 >>> (x6.toInt64 &&& 63)) &&& (1 : Int64)) (1 : Int64)) = 0 then (
R x3 (x6 - (1 : Int32)) (x6 + (-1))) else (
R x3 x5 (x6 + (-1))))
set_option maxRecDepth 100000 in
set_option maxHeartbeats 4000000 in
theorem UX12_broken_205_ok {l : Launch} {g : qG} {d n : Nat} {R : Int64 → Int32 → Int32 → qP Int32} (hR : ∀ (x3 : Int64) (x5 : Int32) (x6 : Int32), qS l g mX12_broken (d + 1) n 0 0 0 0 cvI 205 [(3, .long x3), (5, .int x5), (6, .int x6)] [] (R x3 x5 x6)) (x3 : Int64) (x5 : Int32) (x6 : Int32) : qS l g mX12_broken (d + 1) n 0 0 0 0 cvI 205 [(3, .long x3), (5, .int x5), (6, .int x6)] [] (UX12_broken_205 R x3 x5 x6) := by
  unfold UX12_broken_205
  refine s_iload dX12_broken_205 rfl ?_
  refine s_if_le (tgt := 238) dX12_broken_207 (by decide) (fun c1 => ?_) (fun c1 => ?_)
  · refine s_iload dX12_broken_238 rfl ?_
    exact s_ireturn dX12_broken_240 rfl rfl
  · refine s_lload_n dX12_broken_210 rfl ?_
    refine s_iload dX12_broken_211 rfl ?_
    refine s_lshr dX12_broken_213 ?_
    refine s_lconst (v := 1) dX12_broken_214 (by decide) ?_
    refine s_land dX12_broken_215 ?_
    refine s_lconst (v := 1) dX12_broken_216 (by decide) ?_
    refine s_lcmp dX12_broken_217 ?_
    refine s_if_ne (tgt := 228) dX12_broken_218 (by decide) (fun c2 => ?_) (fun c2 => ?_)
    · refine s_iload dX12_broken_221 rfl ?_
      refine s_iconst (v := 1) dX12_broken_223 (by decide) ?_
      refine s_isub dX12_broken_224 ?_
      refine s_goto (tgt := 230) dX12_broken_225 (by decide) ?_
      refine s_istore (lv' := [(5, .int (x6 - (1 : Int32))), (3, .long x3), (6, .int x6)]) dX12_broken_230 (by decide) rfl ?_
      refine s_iinc (lv' := [(6, .int (x6 + (-1))), (5, .int (x6 - (1 : Int32))), (3, .long x3)]) dX12_broken_232 rfl (by decide) rfl ?_
      refine s_goto (tgt := 205) dX12_broken_235 (by decide) ?_
      refine s_locals [2, 1, 0] rfl ?_
      exact hR x3 (x6 - (1 : Int32)) (x6 + (-1))
    · refine s_iload dX12_broken_228 rfl ?_
      refine s_istore (lv' := [(5, .int x5), (3, .long x3), (6, .int x6)]) dX12_broken_230 (by decide) rfl ?_
      refine s_iinc (lv' := [(6, .int (x6 + (-1))), (5, .int x5), (3, .long x3)]) dX12_broken_232 rfl (by decide) rfl ?_
      refine s_goto (tgt := 205) dX12_broken_235 (by decide) ?_
      refine s_locals [2, 1, 0] rfl ?_
      exact hR x3 x5 (x6 + (-1))
def WX12_broken_205 : Nat → Int64 → Int32 → Int32 → qP Int32
  | 0 => fun _ _ _ => qfail
  | N + 1 => fun x3 x5 x6 => UX12_broken_205 (WX12_broken_205  N)  x3 x5 x6
theorem WX12_broken_205_ok {l : Launch} {g : qG} {d n : Nat} : ∀ (N : Nat) (x3 : Int64) (x5 : Int32) (x6 : Int32), qS l g mX12_broken (d + 1) n 0 0 0 0 cvI 205 [(3, .long x3), (5, .int x5), (6, .int x6)] [] (WX12_broken_205  N x3 x5 x6) := by
  intro N
  induction N with
  | zero => intro x3 x5 x6; exact s_fail
  | succ N ih => intro x3 x5 x6; exact UX12_broken_205_ok ih  x3 x5 x6
def UX12_broken_199 (x2 : Int32) (x3 : Int64) : qP Int32 :=
WX12_broken_205 1000000 x3 (-1 : Int32) x2
set_option maxRecDepth 100000 in
set_option maxHeartbeats 4000000 in
theorem UX12_broken_199_ok {l : Launch} {g : qG} {d n : Nat} (x2 : Int32) (x3 : Int64) : qS l g mX12_broken (d + 1) n 0 0 0 0 cvI 199 [(2, .int x2), (3, .long x3)] [] (UX12_broken_199 x2 x3) := by
  unfold UX12_broken_199
  refine s_iconst (v := -1) dX12_broken_199 (by decide) ?_
  refine s_istore (lv' := [(5, .int (-1 : Int32)), (2, .int x2), (3, .long x3)]) dX12_broken_200 (by decide) rfl ?_
  refine s_iload_n dX12_broken_202 rfl ?_
  refine s_istore (lv' := [(6, .int x2), (5, .int (-1 : Int32)), (2, .int x2), (3, .long x3)]) dX12_broken_203 (by decide) rfl ?_
  refine s_locals [3, 1, 0] rfl ?_
  exact WX12_broken_205_ok  1000000 x3 (-1 : Int32) x2
def UX12_broken_38 (x0 : Nat) (x1 : Int32) (x2 : Int32) (x3 : Int64) : qP Int32 :=
WX12_broken_41 (UX12_broken_199) 1000000 x0 x1 x2 x3 (0 : Int32)
set_option maxRecDepth 100000 in
set_option maxHeartbeats 4000000 in
theorem UX12_broken_38_ok {l : Launch} {g : qG} {d n : Nat} (x0 : Nat) (x1 : Int32) (x2 : Int32) (x3 : Int64) : qS l g mX12_broken (d + 1) n 0 0 0 0 cvI 38 [(0, .ref x0), (1, .int x1), (2, .int x2), (3, .long x3)] [] (UX12_broken_38 x0 x1 x2 x3) := by
  unfold UX12_broken_38
  refine s_iconst (v := 0) dX12_broken_38 (by decide) ?_
  refine s_istore (lv' := [(5, .int (0 : Int32)), (0, .ref x0), (1, .int x1), (2, .int x2), (3, .long x3)]) dX12_broken_39 (by decide) rfl ?_
  refine s_locals [1, 2, 3, 4, 0] rfl ?_
  exact WX12_broken_41_ok (UX12_broken_199_ok) 1000000 x0 x1 x2 x3 (0 : Int32)
def FX12_broken (x0 : Nat) (x1 : Int32) (x2 : Int32) : qP Int32 :=
qb (gR 12 x0 0) fun v1 =>
qb (aI v1 ((89 : Int32) + x1)) fun v2 =>
if v2 = 0 then (
qr (-1 : Int32)) else (
WX12_broken_19 (UX12_broken_38) 1000000 x0 x1 x2 (0 : Int64) (0 : Int32))
set_option maxRecDepth 100000 in
set_option maxHeartbeats 4000000 in
theorem FX12_broken_ok {l : Launch} {g : qG} {d n : Nat} (x0 : Nat) (x1 : Int32) (x2 : Int32) : qS l g mX12_broken (d + 1) n 0 0 0 0 cvI 0 [(0, .ref x0), (1, .int x1), (2, .int x2)] [] (FX12_broken x0 x1 x2) := by
  unfold FX12_broken
  refine s_aload_n dX12_broken_0 rfl ?_
  refine s_gR dX12_broken_1 fX12_7 fun v1 => ?_
  refine s_bipush (v := 89) dX12_broken_4 (by decide) ?_
  refine s_iload_n dX12_broken_6 rfl ?_
  refine s_iadd dX12_broken_7 ?_
  refine s_aI dX12_broken_8 fun v2 => ?_
  refine s_if_ne (tgt := 14) dX12_broken_9 (by decide) (fun c1 => ?_) (fun c1 => ?_)
  · refine s_iconst (v := -1) dX12_broken_12 (by decide) ?_
    exact s_ireturn dX12_broken_13 rfl rfl
  · refine s_lconst (v := 0) dX12_broken_14 (by decide) ?_
    refine s_lstore_n (lv' := [(3, .long (0 : Int64)), (0, .ref x0), (1, .int x1), (2, .int x2)]) dX12_broken_15 (by decide) rfl ?_
    refine s_iconst (v := 0) dX12_broken_16 (by decide) ?_
    refine s_istore (lv' := [(5, .int (0 : Int32)), (3, .long (0 : Int64)), (0, .ref x0), (1, .int x1), (2, .int x2)]) dX12_broken_17 (by decide) rfl ?_
    refine s_locals [2, 3, 4, 1, 0] rfl ?_
    exact WX12_broken_19_ok (UX12_broken_38_ok) 1000000 x0 x1 x2 (0 : Int64) (0 : Int32)
theorem CX12_broken {l : Launch} {g : qG} {d : Nat} (x0 : Nat) (x1 : Int32) (x2 : Int32) : qCt l g mX12_broken (d + 1) 0 0 cvI [.ref x0, .int x1, .int x2] (FX12_broken x0 x1 x2) := s_of pn_X12 (Nat.le_of_ble_eq_true rfl) fun n => FX12_broken_ok x0 x1 x2
def FX12_word (x0 : Nat) (x1 : Int32) : qP Int32 :=
qb (FX12_in (x1).toInt64 (0 : Int64) (3 : Int64)) fun v1 =>
if v1 = 0 then (
qb (qcl 12 x0) fun _ => qb (FX12_bad x0) fun v2 =>
qr v2) else (
qb (gR 12 x0 0) fun v3 =>
qb (aI v3 (3 : Int32)) fun v4 =>
qb (qcl 12 x0) fun _ => qb (FX12_broken x0 x1 v4) fun v5 =>
qr v5)
set_option maxRecDepth 100000 in
set_option maxHeartbeats 4000000 in
theorem FX12_word_ok {l : Launch} {g : qG} {d n : Nat} (x0 : Nat) (x1 : Int32) : qS l g mX12_word (d + 2) n 0 0 0 0 cvI 0 [(0, .ref x0), (1, .int x1)] [] (FX12_word x0 x1) := by
  unfold FX12_word
  refine s_iload_n dX12_word_0 rfl ?_
  refine s_i2l dX12_word_1 ?_
  refine s_lconst (v := 0) dX12_word_2 (by decide) ?_
  refine s_ldc2 dX12_word_3 lX12_108 ?_
  refine s_staticI (as := [.long (x1).toInt64, .long (0 : Int64), .long (3 : Int64)]) (rest := []) dX12_word_6 sX12_59 (CX12_in _ _ _) (Nat.le_of_ble_eq_true rfl) ⟨Nat.le_refl _, Nat.le_refl _⟩ fun v1 => ?_
  refine s_if_eq (tgt := 26) dX12_word_9 (by decide) (fun c1 => ?_) (fun c1 => ?_)
  · refine s_aload_n dX12_word_26 rfl ?_
    refine s_virtI (as := []) (rest := []) dX12_word_27 vX12_74 (CX12_bad _) (Nat.le_of_ble_eq_true rfl) ⟨Nat.le_refl _, Nat.le_refl _⟩ fun v2 => ?_
    exact s_ireturn dX12_word_30 rfl rfl
  · refine s_aload_n dX12_word_12 rfl ?_
    refine s_iload_n dX12_word_13 rfl ?_
    refine s_aload_n dX12_word_14 rfl ?_
    refine s_gR dX12_word_15 fX12_7 fun v3 => ?_
    refine s_iconst (v := 3) dX12_word_18 (by decide) ?_
    refine s_aI dX12_word_19 fun v4 => ?_
    refine s_virtI (as := [.int x1, .int v4]) (rest := []) dX12_word_20 vX12_151 (CX12_broken _ _ _) (Nat.le_of_ble_eq_true rfl) ⟨Nat.le_refl _, Nat.le_refl _⟩ fun v5 => ?_
    refine s_goto (tgt := 30) dX12_word_23 (by decide) ?_
    exact s_ireturn dX12_word_30 rfl rfl
theorem CX12_word {l : Launch} {g : qG} {d : Nat} (x0 : Nat) (x1 : Int32) : qCt l g mX12_word (d + 2) 0 0 cvI [.ref x0, .int x1] (FX12_word x0 x1) := s_of pn_X12 (Nat.le_of_ble_eq_true rfl) fun n => FX12_word_ok x0 x1
def UX12_silentIn_27 (R : Nat → Int32 → Int32 → Int32 → qP Int32) (x0 : Nat) (x1 : Int32) (x3 : Int32) (s0 : Int32) (s1 : Int32) : qP Int32 :=
R x0 x1 (s0 ||| s1) (x3 + 1)
set_option maxRecDepth 100000 in
set_option maxHeartbeats 4000000 in
theorem UX12_silentIn_27_ok {l : Launch} {g : qG} {d n : Nat} {R : Nat → Int32 → Int32 → Int32 → qP Int32} (hR : ∀ (x0 : Nat) (x1 : Int32) (x2 : Int32) (x3 : Int32), qS l g mX12_silentIn (d + 2) n 0 0 0 0 cvI 4 [(0, .ref x0), (1, .int x1), (2, .int x2), (3, .int x3)] [] (R x0 x1 x2 x3)) (x0 : Nat) (x1 : Int32) (x3 : Int32) (s0 : Int32) (s1 : Int32) : qS l g mX12_silentIn (d + 2) n 0 0 0 0 cvI 27 [(0, .ref x0), (1, .int x1), (3, .int x3)] [.int s1, .int s0] (UX12_silentIn_27 R x0 x1 x3 s0 s1) := by
  unfold UX12_silentIn_27
  refine s_ior dX12_silentIn_27 ?_
  refine s_istore_n (lv' := [(2, .int (s0 ||| s1)), (0, .ref x0), (1, .int x1), (3, .int x3)]) dX12_silentIn_28 (by decide) rfl ?_
  refine s_iinc (lv' := [(3, .int (x3 + 1)), (2, .int (s0 ||| s1)), (0, .ref x0), (1, .int x1)]) dX12_silentIn_29 rfl (by decide) rfl ?_
  refine s_goto (tgt := 4) dX12_silentIn_32 (by decide) ?_
  refine s_locals [2, 3, 1, 0] rfl ?_
  exact hR x0 x1 (s0 ||| s1) (x3 + 1)
def UX12_silentIn_4 (R : Nat → Int32 → Int32 → Int32 → qP Int32) (x0 : Nat) (x1 : Int32) (x2 : Int32) (x3 : Int32) : qP Int32 :=
if (4 : Int32) ≤ x3 then (
qr x2) else (
qb (qcl 12 x0) fun _ => qb (FX12_broken x0 x3 x1) fun v1 =>
if v1 = (-1 : Int32) then (
UX12_silentIn_27 R x0 x1 x3 x2 ((1 : Int32) <<< (x3 &&& 31))) else (
UX12_silentIn_27 R x0 x1 x3 x2 (0 : Int32)))
set_option maxRecDepth 100000 in
set_option maxHeartbeats 4000000 in
theorem UX12_silentIn_4_ok {l : Launch} {g : qG} {d n : Nat} {R : Nat → Int32 → Int32 → Int32 → qP Int32} (hR : ∀ (x0 : Nat) (x1 : Int32) (x2 : Int32) (x3 : Int32), qS l g mX12_silentIn (d + 2) n 0 0 0 0 cvI 4 [(0, .ref x0), (1, .int x1), (2, .int x2), (3, .int x3)] [] (R x0 x1 x2 x3)) (x0 : Nat) (x1 : Int32) (x2 : Int32) (x3 : Int32) : qS l g mX12_silentIn (d + 2) n 0 0 0 0 cvI 4 [(0, .ref x0), (1, .int x1), (2, .int x2), (3, .int x3)] [] (UX12_silentIn_4 R x0 x1 x2 x3) := by
  unfold UX12_silentIn_4
  refine s_iload_n dX12_silentIn_4 rfl ?_
  refine s_iconst (v := 4) dX12_silentIn_5 (by decide) ?_
  refine s_icmp_ge (tgt := 35) dX12_silentIn_6 (by decide) (fun c1 => ?_) (fun c1 => ?_)
  · refine s_iload_n dX12_silentIn_35 rfl ?_
    exact s_ireturn dX12_silentIn_36 rfl rfl
  · refine s_iload_n dX12_silentIn_9 rfl ?_
    refine s_aload_n dX12_silentIn_10 rfl ?_
    refine s_iload_n dX12_silentIn_11 rfl ?_
    refine s_iload_n dX12_silentIn_12 rfl ?_
    refine s_virtI (as := [.int x3, .int x1]) (rest := [.int x2]) dX12_silentIn_13 vX12_151 (CX12_broken _ _ _) (Nat.le_of_ble_eq_true rfl) ⟨Nat.le_refl _, Nat.le_refl _⟩ fun v1 => ?_
    refine s_iconst (v := -1) dX12_silentIn_16 (by decide) ?_
    refine s_icmp_ne (tgt := 26) dX12_silentIn_17 (by decide) (fun c2 => ?_) (fun c2 => ?_)
    · refine s_iconst (v := 1) dX12_silentIn_20 (by decide) ?_
      refine s_iload_n dX12_silentIn_21 rfl ?_
      refine s_ishl dX12_silentIn_22 ?_
      refine s_goto (tgt := 27) dX12_silentIn_23 (by decide) ?_
      refine s_locals [0, 1, 3] rfl ?_
      exact UX12_silentIn_27_ok hR x0 x1 x3 x2 ((1 : Int32) <<< (x3 &&& 31))
    · refine s_iconst (v := 0) dX12_silentIn_26 (by decide) ?_
      refine s_locals [0, 1, 3] rfl ?_
      exact UX12_silentIn_27_ok hR x0 x1 x3 x2 (0 : Int32)
def WX12_silentIn_4 : Nat → Nat → Int32 → Int32 → Int32 → qP Int32
  | 0 => fun _ _ _ _ => qfail
  | N + 1 => fun x0 x1 x2 x3 => UX12_silentIn_4 (WX12_silentIn_4  N)  x0 x1 x2 x3
theorem WX12_silentIn_4_ok {l : Launch} {g : qG} {d n : Nat} : ∀ (N : Nat) (x0 : Nat) (x1 : Int32) (x2 : Int32) (x3 : Int32), qS l g mX12_silentIn (d + 2) n 0 0 0 0 cvI 4 [(0, .ref x0), (1, .int x1), (2, .int x2), (3, .int x3)] [] (WX12_silentIn_4  N x0 x1 x2 x3) := by
  intro N
  induction N with
  | zero => intro x0 x1 x2 x3; exact s_fail
  | succ N ih => intro x0 x1 x2 x3; exact UX12_silentIn_4_ok ih  x0 x1 x2 x3
def FX12_silentIn (x0 : Nat) (x1 : Int32) : qP Int32 :=
WX12_silentIn_4 1000000 x0 x1 (0 : Int32) (0 : Int32)
set_option maxRecDepth 100000 in
set_option maxHeartbeats 4000000 in
theorem FX12_silentIn_ok {l : Launch} {g : qG} {d n : Nat} (x0 : Nat) (x1 : Int32) : qS l g mX12_silentIn (d + 2) n 0 0 0 0 cvI 0 [(0, .ref x0), (1, .int x1)] [] (FX12_silentIn x0 x1) := by
  unfold FX12_silentIn
  refine s_iconst (v := 0) dX12_silentIn_0 (by decide) ?_
  refine s_istore_n (lv' := [(2, .int (0 : Int32)), (0, .ref x0), (1, .int x1)]) dX12_silentIn_1 (by decide) rfl ?_
  refine s_iconst (v := 0) dX12_silentIn_2 (by decide) ?_
  refine s_istore_n (lv' := [(3, .int (0 : Int32)), (2, .int (0 : Int32)), (0, .ref x0), (1, .int x1)]) dX12_silentIn_3 (by decide) rfl ?_
  refine s_locals [2, 3, 1, 0] rfl ?_
  exact WX12_silentIn_4_ok  1000000 x0 x1 (0 : Int32) (0 : Int32)
theorem CX12_silentIn {l : Launch} {g : qG} {d : Nat} (x0 : Nat) (x1 : Int32) : qCt l g mX12_silentIn (d + 2) 0 0 cvI [.ref x0, .int x1] (FX12_silentIn x0 x1) := s_of pn_X12 (Nat.le_of_ble_eq_true rfl) fun n => FX12_silentIn_ok x0 x1
def FX12_silent (x0 : Nat) : qP Int32 :=
qb (gR 12 x0 0) fun v1 =>
qb (aI v1 (3 : Int32)) fun v2 =>
qb (qcl 12 x0) fun _ => qb (FX12_silentIn x0 v2) fun v3 =>
qr v3
set_option maxRecDepth 100000 in
set_option maxHeartbeats 4000000 in
theorem FX12_silent_ok {l : Launch} {g : qG} {d n : Nat} (x0 : Nat) : qS l g mX12_silent (d + 3) n 0 0 0 0 cvI 0 [(0, .ref x0)] [] (FX12_silent x0) := by
  unfold FX12_silent
  refine s_aload_n dX12_silent_0 rfl ?_
  refine s_aload_n dX12_silent_1 rfl ?_
  refine s_gR dX12_silent_2 fX12_7 fun v1 => ?_
  refine s_iconst (v := 3) dX12_silent_5 (by decide) ?_
  refine s_aI dX12_silent_6 fun v2 => ?_
  refine s_virtI (as := [.int v2]) (rest := []) dX12_silent_7 vX12_154 (CX12_silentIn _ _) (Nat.le_of_ble_eq_true rfl) ⟨Nat.le_refl _, Nat.le_refl _⟩ fun v3 => ?_
  exact s_ireturn dX12_silent_10 rfl rfl
theorem CX12_silent {l : Launch} {g : qG} {d : Nat} (x0 : Nat) : qCt l g mX12_silent (d + 3) 0 0 cvI [.ref x0] (FX12_silent x0) := s_of pn_X12 (Nat.le_of_ble_eq_true rfl) fun n => FX12_silent_ok x0
def UX12_met_17 (x0 : Nat) : qP Int32 :=
qb (qcl 12 x0) fun _ => qb (FX12_refuses x0 (0 : Int32) (-10 : Int32)) fun v1 =>
qr v1
set_option maxRecDepth 100000 in
set_option maxHeartbeats 4000000 in
theorem UX12_met_17_ok {l : Launch} {g : qG} {d n : Nat} (x0 : Nat) : qS l g mX12_met (d + 3) n 0 0 0 0 cvI 17 [(0, .ref x0)] [] (UX12_met_17 x0) := by
  unfold UX12_met_17
  refine s_aload_n dX12_met_17 rfl ?_
  refine s_iconst (v := 0) dX12_met_18 (by decide) ?_
  refine s_bipush (v := -10) dX12_met_19 (by decide) ?_
  refine s_virtI (as := [.int (0 : Int32), .int (-10 : Int32)]) (rest := []) dX12_met_21 vX12_55 (CX12_refuses _ _ _) (Nat.le_of_ble_eq_true rfl) ⟨Nat.le_refl _, Nat.le_refl _⟩ fun v1 => ?_
  exact s_ireturn dX12_met_24 rfl rfl
def UX12_met_73 (R : Nat → Int32 → Int32 → Int32 → Int32 → Int32 → Int32 → Int32 → qP Int32) (K107 : Nat → Int32 → Int32 → Int32 → Int32 → Int32 → Int32 → qP Int32) (x0 : Nat) (x1 : Int32) (x2 : Int32) (x3 : Int32) (x4 : Int32) (x5 : Int32) (x6 : Int32) (x7 : Int32) : qP Int32 :=
if x4 ≤ x7 then (
K107 x0 x1 x2 x3 x4 x5 x6) else (
qb (gR 12 x0 11) fun v1 =>
qb (sI v1 x7 ((x6 >>> (((2 : Int32) * ((x4 - (1 : Int32)) - x7)) &&& 31)) &&& (3 : Int32))) fun _ =>
R x0 x1 x2 x3 x4 x5 x6 (x7 + 1))
set_option maxRecDepth 100000 in
set_option maxHeartbeats 4000000 in
theorem UX12_met_73_ok {l : Launch} {g : qG} {d n : Nat} {R : Nat → Int32 → Int32 → Int32 → Int32 → Int32 → Int32 → Int32 → qP Int32} (hR : ∀ (x0 : Nat) (x1 : Int32) (x2 : Int32) (x3 : Int32) (x4 : Int32) (x5 : Int32) (x6 : Int32) (x7 : Int32), qS l g mX12_met (d + 3) n 0 0 0 0 cvI 73 [(0, .ref x0), (1, .int x1), (2, .int x2), (3, .int x3), (4, .int x4), (5, .int x5), (6, .int x6), (7, .int x7)] [] (R x0 x1 x2 x3 x4 x5 x6 x7)) {K107 : Nat → Int32 → Int32 → Int32 → Int32 → Int32 → Int32 → qP Int32} (hK107 : ∀ (x0 : Nat) (x1 : Int32) (x2 : Int32) (x3 : Int32) (x4 : Int32) (x5 : Int32) (x6 : Int32), qS l g mX12_met (d + 3) n 0 0 0 0 cvI 107 [(0, .ref x0), (1, .int x1), (2, .int x2), (3, .int x3), (4, .int x4), (5, .int x5), (6, .int x6)] [] (K107 x0 x1 x2 x3 x4 x5 x6)) (x0 : Nat) (x1 : Int32) (x2 : Int32) (x3 : Int32) (x4 : Int32) (x5 : Int32) (x6 : Int32) (x7 : Int32) : qS l g mX12_met (d + 3) n 0 0 0 0 cvI 73 [(0, .ref x0), (1, .int x1), (2, .int x2), (3, .int x3), (4, .int x4), (5, .int x5), (6, .int x6), (7, .int x7)] [] (UX12_met_73 R K107 x0 x1 x2 x3 x4 x5 x6 x7) := by
  unfold UX12_met_73
  refine s_iload dX12_met_73 rfl ?_
  refine s_iload dX12_met_75 rfl ?_
  refine s_icmp_ge (tgt := 107) dX12_met_77 (by decide) (fun c1 => ?_) (fun c1 => ?_)
  · refine s_locals [0, 1, 2, 3, 4, 5, 6] rfl ?_
    exact hK107 x0 x1 x2 x3 x4 x5 x6
  · refine s_aload_n dX12_met_80 rfl ?_
    refine s_gR dX12_met_81 fX12_35 fun v1 => ?_
    refine s_iload dX12_met_84 rfl ?_
    refine s_iload dX12_met_86 rfl ?_
    refine s_iconst (v := 2) dX12_met_88 (by decide) ?_
    refine s_iload dX12_met_89 rfl ?_
    refine s_iconst (v := 1) dX12_met_91 (by decide) ?_
    refine s_isub dX12_met_92 ?_
    refine s_iload dX12_met_93 rfl ?_
    refine s_isub dX12_met_95 ?_
    refine s_imul dX12_met_96 ?_
    refine s_ishr dX12_met_97 ?_
    refine s_iconst (v := 3) dX12_met_98 (by decide) ?_
    refine s_iand dX12_met_99 ?_
    refine s_sI dX12_met_100 ?_
    refine s_iinc (lv' := [(7, .int (x7 + 1)), (0, .ref x0), (1, .int x1), (2, .int x2), (3, .int x3), (4, .int x4), (5, .int x5), (6, .int x6)]) dX12_met_101 rfl (by decide) rfl ?_
    refine s_goto (tgt := 73) dX12_met_104 (by decide) ?_
    refine s_locals [1, 2, 3, 4, 5, 6, 7, 0] rfl ?_
    exact hR x0 x1 x2 x3 x4 x5 x6 (x7 + 1)
def WX12_met_73 (K107 : Nat → Int32 → Int32 → Int32 → Int32 → Int32 → Int32 → qP Int32) : Nat → Nat → Int32 → Int32 → Int32 → Int32 → Int32 → Int32 → Int32 → qP Int32
  | 0 => fun _ _ _ _ _ _ _ _ => qfail
  | N + 1 => fun x0 x1 x2 x3 x4 x5 x6 x7 => UX12_met_73 (WX12_met_73 K107 N) K107 x0 x1 x2 x3 x4 x5 x6 x7
theorem WX12_met_73_ok {l : Launch} {g : qG} {d n : Nat} {K107 : Nat → Int32 → Int32 → Int32 → Int32 → Int32 → Int32 → qP Int32} (hK107 : ∀ (x0 : Nat) (x1 : Int32) (x2 : Int32) (x3 : Int32) (x4 : Int32) (x5 : Int32) (x6 : Int32), qS l g mX12_met (d + 3) n 0 0 0 0 cvI 107 [(0, .ref x0), (1, .int x1), (2, .int x2), (3, .int x3), (4, .int x4), (5, .int x5), (6, .int x6)] [] (K107 x0 x1 x2 x3 x4 x5 x6)) : ∀ (N : Nat) (x0 : Nat) (x1 : Int32) (x2 : Int32) (x3 : Int32) (x4 : Int32) (x5 : Int32) (x6 : Int32) (x7 : Int32), qS l g mX12_met (d + 3) n 0 0 0 0 cvI 73 [(0, .ref x0), (1, .int x1), (2, .int x2), (3, .int x3), (4, .int x4), (5, .int x5), (6, .int x6), (7, .int x7)] [] (WX12_met_73 K107 N x0 x1 x2 x3 x4 x5 x6 x7) := by
  intro N
  induction N with
  | zero => intro x0 x1 x2 x3 x4 x5 x6 x7; exact s_fail
  | succ N ih => intro x0 x1 x2 x3 x4 x5 x6 x7; exact UX12_met_73_ok ih hK107 x0 x1 x2 x3 x4 x5 x6 x7
def UX12_met_107 (R : Nat → Int32 → Int32 → Int32 → Int32 → Int32 → Int32 → qP Int32) (K137 : Nat → Int32 → Int32 → qP Int32) (K171 : Nat → Int32 → Int32 → Int32 → Int32 → qP Int32) (x0 : Nat) (x1 : Int32) (x2 : Int32) (x3 : Int32) (x4 : Int32) (x5 : Int32) (x6 : Int32) : qP Int32 :=
if x5 ≤ 0 then (
R x0 x1 x2 x3 x4 x5 (x6 + 1)) else (
qb (qcl 12 x0) fun _ => qb (FX12_signAt x0 (x5 - (1 : Int32))) fun v1 =>
if v1 = x1 then (
qb (qcl 12 x0) fun _ => qb (FX12_silentIn x0 x5) fun v2 =>
if (x3 &&& (v2 ^^^ (-1 : Int32))) = 0 then (
K137 x0 x2 x4) else (
R x0 x1 x2 x3 x4 x5 (x6 + 1))) else (
R x0 x1 x2 x3 x4 x5 (x6 + 1)))
set_option maxRecDepth 100000 in
set_option maxHeartbeats 4000000 in
theorem UX12_met_107_ok {l : Launch} {g : qG} {d n : Nat} {R : Nat → Int32 → Int32 → Int32 → Int32 → Int32 → Int32 → qP Int32} (hR : ∀ (x0 : Nat) (x1 : Int32) (x2 : Int32) (x3 : Int32) (x4 : Int32) (x5 : Int32) (x6 : Int32), qS l g mX12_met (d + 3) n 0 0 0 0 cvI 59 [(0, .ref x0), (1, .int x1), (2, .int x2), (3, .int x3), (4, .int x4), (5, .int x5), (6, .int x6)] [] (R x0 x1 x2 x3 x4 x5 x6)) {K137 : Nat → Int32 → Int32 → qP Int32} (hK137 : ∀ (x0 : Nat) (x2 : Int32) (x4 : Int32), qS l g mX12_met (d + 3) n 0 0 0 0 cvI 137 [(0, .ref x0), (2, .int x2), (4, .int x4)] [] (K137 x0 x2 x4)) {K171 : Nat → Int32 → Int32 → Int32 → Int32 → qP Int32} (hK171 : ∀ (x0 : Nat) (x1 : Int32) (x2 : Int32) (x3 : Int32) (x4 : Int32), qS l g mX12_met (d + 3) n 0 0 0 0 cvI 171 [(0, .ref x0), (1, .int x1), (2, .int x2), (3, .int x3), (4, .int x4)] [] (K171 x0 x1 x2 x3 x4)) (x0 : Nat) (x1 : Int32) (x2 : Int32) (x3 : Int32) (x4 : Int32) (x5 : Int32) (x6 : Int32) : qS l g mX12_met (d + 3) n 0 0 0 0 cvI 107 [(0, .ref x0), (1, .int x1), (2, .int x2), (3, .int x3), (4, .int x4), (5, .int x5), (6, .int x6)] [] (UX12_met_107 R K137 K171 x0 x1 x2 x3 x4 x5 x6) := by
  unfold UX12_met_107
  refine s_iload dX12_met_107 rfl ?_
  refine s_if_le (tgt := 165) dX12_met_109 (by decide) (fun c1 => ?_) (fun c1 => ?_)
  · refine s_iinc (lv' := [(6, .int (x6 + 1)), (0, .ref x0), (1, .int x1), (2, .int x2), (3, .int x3), (4, .int x4), (5, .int x5)]) dX12_met_165 rfl (by decide) rfl ?_
    refine s_goto (tgt := 59) dX12_met_168 (by decide) ?_
    refine s_locals [1, 2, 3, 4, 5, 6, 0] rfl ?_
    exact hR x0 x1 x2 x3 x4 x5 (x6 + 1)
  · refine s_aload_n dX12_met_112 rfl ?_
    refine s_iload dX12_met_113 rfl ?_
    refine s_iconst (v := 1) dX12_met_115 (by decide) ?_
    refine s_isub dX12_met_116 ?_
    refine s_virtI (as := [.int (x5 - (1 : Int32))]) (rest := []) dX12_met_117 vX12_148 (CX12_signAt _ _) (Nat.le_of_ble_eq_true rfl) ⟨Nat.le_refl _, Nat.le_refl _⟩ fun v1 => ?_
    refine s_iload_n dX12_met_120 rfl ?_
    refine s_icmp_ne (tgt := 165) dX12_met_121 (by decide) (fun c2 => ?_) (fun c2 => ?_)
    · refine s_iload_n dX12_met_124 rfl ?_
      refine s_aload_n dX12_met_125 rfl ?_
      refine s_iload dX12_met_126 rfl ?_
      refine s_virtI (as := [.int x5]) (rest := [.int x3]) dX12_met_128 vX12_154 (CX12_silentIn _ _) (Nat.le_of_ble_eq_true rfl) ⟨Nat.le_refl _, Nat.le_refl _⟩ fun v2 => ?_
      refine s_iconst (v := -1) dX12_met_131 (by decide) ?_
      refine s_ixor dX12_met_132 ?_
      refine s_iand dX12_met_133 ?_
      refine s_if_ne (tgt := 165) dX12_met_134 (by decide) (fun c3 => ?_) (fun c3 => ?_)
      · refine s_locals [0, 2, 4] rfl ?_
        exact hK137 x0 x2 x4
      · refine s_iinc (lv' := [(6, .int (x6 + 1)), (0, .ref x0), (1, .int x1), (2, .int x2), (3, .int x3), (4, .int x4), (5, .int x5)]) dX12_met_165 rfl (by decide) rfl ?_
        refine s_goto (tgt := 59) dX12_met_168 (by decide) ?_
        refine s_locals [1, 2, 3, 4, 5, 6, 0] rfl ?_
        exact hR x0 x1 x2 x3 x4 x5 (x6 + 1)
    · refine s_iinc (lv' := [(6, .int (x6 + 1)), (0, .ref x0), (1, .int x1), (2, .int x2), (3, .int x3), (4, .int x4), (5, .int x5)]) dX12_met_165 rfl (by decide) rfl ?_
      refine s_goto (tgt := 59) dX12_met_168 (by decide) ?_
      refine s_locals [1, 2, 3, 4, 5, 6, 0] rfl ?_
      exact hR x0 x1 x2 x3 x4 x5 (x6 + 1)
def UX12_met_59 (R : Nat → Int32 → Int32 → Int32 → Int32 → Int32 → Int32 → qP Int32) (K137 : Nat → Int32 → Int32 → qP Int32) (K171 : Nat → Int32 → Int32 → Int32 → Int32 → qP Int32) (x0 : Nat) (x1 : Int32) (x2 : Int32) (x3 : Int32) (x4 : Int32) (x5 : Int32) (x6 : Int32) : qP Int32 :=
if ((1 : Int32) <<< (((2 : Int32) * x4) &&& 31)) ≤ x6 then (
K171 x0 x1 x2 x3 x4) else (
WX12_met_73 (UX12_met_107 R K137 K171) 1000000 x0 x1 x2 x3 x4 x5 x6 (0 : Int32))
set_option maxRecDepth 100000 in
set_option maxHeartbeats 4000000 in
theorem UX12_met_59_ok {l : Launch} {g : qG} {d n : Nat} {R : Nat → Int32 → Int32 → Int32 → Int32 → Int32 → Int32 → qP Int32} (hR : ∀ (x0 : Nat) (x1 : Int32) (x2 : Int32) (x3 : Int32) (x4 : Int32) (x5 : Int32) (x6 : Int32), qS l g mX12_met (d + 3) n 0 0 0 0 cvI 59 [(0, .ref x0), (1, .int x1), (2, .int x2), (3, .int x3), (4, .int x4), (5, .int x5), (6, .int x6)] [] (R x0 x1 x2 x3 x4 x5 x6)) {K137 : Nat → Int32 → Int32 → qP Int32} (hK137 : ∀ (x0 : Nat) (x2 : Int32) (x4 : Int32), qS l g mX12_met (d + 3) n 0 0 0 0 cvI 137 [(0, .ref x0), (2, .int x2), (4, .int x4)] [] (K137 x0 x2 x4)) {K171 : Nat → Int32 → Int32 → Int32 → Int32 → qP Int32} (hK171 : ∀ (x0 : Nat) (x1 : Int32) (x2 : Int32) (x3 : Int32) (x4 : Int32), qS l g mX12_met (d + 3) n 0 0 0 0 cvI 171 [(0, .ref x0), (1, .int x1), (2, .int x2), (3, .int x3), (4, .int x4)] [] (K171 x0 x1 x2 x3 x4)) (x0 : Nat) (x1 : Int32) (x2 : Int32) (x3 : Int32) (x4 : Int32) (x5 : Int32) (x6 : Int32) : qS l g mX12_met (d + 3) n 0 0 0 0 cvI 59 [(0, .ref x0), (1, .int x1), (2, .int x2), (3, .int x3), (4, .int x4), (5, .int x5), (6, .int x6)] [] (UX12_met_59 R K137 K171 x0 x1 x2 x3 x4 x5 x6) := by
  unfold UX12_met_59
  refine s_iload dX12_met_59 rfl ?_
  refine s_iconst (v := 1) dX12_met_61 (by decide) ?_
  refine s_iconst (v := 2) dX12_met_62 (by decide) ?_
  refine s_iload dX12_met_63 rfl ?_
  refine s_imul dX12_met_65 ?_
  refine s_ishl dX12_met_66 ?_
  refine s_icmp_ge (tgt := 171) dX12_met_67 (by decide) (fun c1 => ?_) (fun c1 => ?_)
  · refine s_locals [0, 1, 2, 3, 4] rfl ?_
    exact hK171 x0 x1 x2 x3 x4
  · refine s_iconst (v := 0) dX12_met_70 (by decide) ?_
    refine s_istore (lv' := [(7, .int (0 : Int32)), (0, .ref x0), (1, .int x1), (2, .int x2), (3, .int x3), (4, .int x4), (5, .int x5), (6, .int x6)]) dX12_met_71 (by decide) rfl ?_
    refine s_locals [1, 2, 3, 4, 5, 6, 7, 0] rfl ?_
    exact WX12_met_73_ok (UX12_met_107_ok hR hK137 hK171) 1000000 x0 x1 x2 x3 x4 x5 x6 (0 : Int32)
def WX12_met_59 (K137 : Nat → Int32 → Int32 → qP Int32) (K171 : Nat → Int32 → Int32 → Int32 → Int32 → qP Int32) : Nat → Nat → Int32 → Int32 → Int32 → Int32 → Int32 → Int32 → qP Int32
  | 0 => fun _ _ _ _ _ _ _ => qfail
  | N + 1 => fun x0 x1 x2 x3 x4 x5 x6 => UX12_met_59 (WX12_met_59 K137 K171 N) K137 K171 x0 x1 x2 x3 x4 x5 x6
theorem WX12_met_59_ok {l : Launch} {g : qG} {d n : Nat} {K137 : Nat → Int32 → Int32 → qP Int32} (hK137 : ∀ (x0 : Nat) (x2 : Int32) (x4 : Int32), qS l g mX12_met (d + 3) n 0 0 0 0 cvI 137 [(0, .ref x0), (2, .int x2), (4, .int x4)] [] (K137 x0 x2 x4)) {K171 : Nat → Int32 → Int32 → Int32 → Int32 → qP Int32} (hK171 : ∀ (x0 : Nat) (x1 : Int32) (x2 : Int32) (x3 : Int32) (x4 : Int32), qS l g mX12_met (d + 3) n 0 0 0 0 cvI 171 [(0, .ref x0), (1, .int x1), (2, .int x2), (3, .int x3), (4, .int x4)] [] (K171 x0 x1 x2 x3 x4)) : ∀ (N : Nat) (x0 : Nat) (x1 : Int32) (x2 : Int32) (x3 : Int32) (x4 : Int32) (x5 : Int32) (x6 : Int32), qS l g mX12_met (d + 3) n 0 0 0 0 cvI 59 [(0, .ref x0), (1, .int x1), (2, .int x2), (3, .int x3), (4, .int x4), (5, .int x5), (6, .int x6)] [] (WX12_met_59 K137 K171 N x0 x1 x2 x3 x4 x5 x6) := by
  intro N
  induction N with
  | zero => intro x0 x1 x2 x3 x4 x5 x6; exact s_fail
  | succ N ih => intro x0 x1 x2 x3 x4 x5 x6; exact UX12_met_59_ok ih hK137 hK171 x0 x1 x2 x3 x4 x5 x6
def UX12_met_171 (R : Nat → Int32 → Int32 → Int32 → Int32 → qP Int32) (K137 : Nat → Int32 → Int32 → qP Int32) (x0 : Nat) (x1 : Int32) (x2 : Int32) (x3 : Int32) (x4 : Int32) : qP Int32 :=
R x0 x1 x2 x3 (x4 + 1)
set_option maxRecDepth 100000 in
set_option maxHeartbeats 4000000 in
theorem UX12_met_171_ok {l : Launch} {g : qG} {d n : Nat} {R : Nat → Int32 → Int32 → Int32 → Int32 → qP Int32} (hR : ∀ (x0 : Nat) (x1 : Int32) (x2 : Int32) (x3 : Int32) (x4 : Int32), qS l g mX12_met (d + 3) n 0 0 0 0 cvI 39 [(0, .ref x0), (1, .int x1), (2, .int x2), (3, .int x3), (4, .int x4)] [] (R x0 x1 x2 x3 x4)) {K137 : Nat → Int32 → Int32 → qP Int32} (hK137 : ∀ (x0 : Nat) (x2 : Int32) (x4 : Int32), qS l g mX12_met (d + 3) n 0 0 0 0 cvI 137 [(0, .ref x0), (2, .int x2), (4, .int x4)] [] (K137 x0 x2 x4)) (x0 : Nat) (x1 : Int32) (x2 : Int32) (x3 : Int32) (x4 : Int32) : qS l g mX12_met (d + 3) n 0 0 0 0 cvI 171 [(0, .ref x0), (1, .int x1), (2, .int x2), (3, .int x3), (4, .int x4)] [] (UX12_met_171 R K137 x0 x1 x2 x3 x4) := by
  unfold UX12_met_171
  refine s_iinc (lv' := [(4, .int (x4 + 1)), (0, .ref x0), (1, .int x1), (2, .int x2), (3, .int x3)]) dX12_met_171 rfl (by decide) rfl ?_
  refine s_goto (tgt := 39) dX12_met_174 (by decide) ?_
  refine s_locals [1, 2, 3, 4, 0] rfl ?_
  exact hR x0 x1 x2 x3 (x4 + 1)
def UX12_met_39 (R : Nat → Int32 → Int32 → Int32 → Int32 → qP Int32) (K137 : Nat → Int32 → Int32 → qP Int32) (x0 : Nat) (x1 : Int32) (x2 : Int32) (x3 : Int32) (x4 : Int32) : qP Int32 :=
if (3 : Int32) < x4 then (
qr (-1 : Int32)) else (
qb (gR 12 x0 0) fun v1 =>
qb (aI v1 (3 : Int32)) fun v2 =>
WX12_met_59 (K137) (UX12_met_171 R K137) 1000000 x0 x1 x2 x3 x4 (v2 + x4) (0 : Int32))
set_option maxRecDepth 100000 in
set_option maxHeartbeats 4000000 in
theorem UX12_met_39_ok {l : Launch} {g : qG} {d n : Nat} {R : Nat → Int32 → Int32 → Int32 → Int32 → qP Int32} (hR : ∀ (x0 : Nat) (x1 : Int32) (x2 : Int32) (x3 : Int32) (x4 : Int32), qS l g mX12_met (d + 3) n 0 0 0 0 cvI 39 [(0, .ref x0), (1, .int x1), (2, .int x2), (3, .int x3), (4, .int x4)] [] (R x0 x1 x2 x3 x4)) {K137 : Nat → Int32 → Int32 → qP Int32} (hK137 : ∀ (x0 : Nat) (x2 : Int32) (x4 : Int32), qS l g mX12_met (d + 3) n 0 0 0 0 cvI 137 [(0, .ref x0), (2, .int x2), (4, .int x4)] [] (K137 x0 x2 x4)) (x0 : Nat) (x1 : Int32) (x2 : Int32) (x3 : Int32) (x4 : Int32) : qS l g mX12_met (d + 3) n 0 0 0 0 cvI 39 [(0, .ref x0), (1, .int x1), (2, .int x2), (3, .int x3), (4, .int x4)] [] (UX12_met_39 R K137 x0 x1 x2 x3 x4) := by
  unfold UX12_met_39
  refine s_iload dX12_met_39 rfl ?_
  refine s_iconst (v := 3) dX12_met_41 (by decide) ?_
  refine s_icmp_gt (tgt := 177) dX12_met_42 (by decide) (fun c1 => ?_) (fun c1 => ?_)
  · refine s_iconst (v := -1) dX12_met_177 (by decide) ?_
    exact s_ireturn dX12_met_178 rfl rfl
  · refine s_aload_n dX12_met_45 rfl ?_
    refine s_gR dX12_met_46 fX12_7 fun v1 => ?_
    refine s_iconst (v := 3) dX12_met_49 (by decide) ?_
    refine s_aI dX12_met_50 fun v2 => ?_
    refine s_iload dX12_met_51 rfl ?_
    refine s_iadd dX12_met_53 ?_
    refine s_istore (lv' := [(5, .int (v2 + x4)), (0, .ref x0), (1, .int x1), (2, .int x2), (3, .int x3), (4, .int x4)]) dX12_met_54 (by decide) rfl ?_
    refine s_iconst (v := 0) dX12_met_56 (by decide) ?_
    refine s_istore (lv' := [(6, .int (0 : Int32)), (5, .int (v2 + x4)), (0, .ref x0), (1, .int x1), (2, .int x2), (3, .int x3), (4, .int x4)]) dX12_met_57 (by decide) rfl ?_
    refine s_locals [2, 3, 4, 5, 6, 1, 0] rfl ?_
    exact WX12_met_59_ok hK137 (UX12_met_171_ok hR hK137) 1000000 x0 x1 x2 x3 x4 (v2 + x4) (0 : Int32)
def WX12_met_39 (K137 : Nat → Int32 → Int32 → qP Int32) : Nat → Nat → Int32 → Int32 → Int32 → Int32 → qP Int32
  | 0 => fun _ _ _ _ _ => qfail
  | N + 1 => fun x0 x1 x2 x3 x4 => UX12_met_39 (WX12_met_39 K137 N) K137 x0 x1 x2 x3 x4
theorem WX12_met_39_ok {l : Launch} {g : qG} {d n : Nat} {K137 : Nat → Int32 → Int32 → qP Int32} (hK137 : ∀ (x0 : Nat) (x2 : Int32) (x4 : Int32), qS l g mX12_met (d + 3) n 0 0 0 0 cvI 137 [(0, .ref x0), (2, .int x2), (4, .int x4)] [] (K137 x0 x2 x4)) : ∀ (N : Nat) (x0 : Nat) (x1 : Int32) (x2 : Int32) (x3 : Int32) (x4 : Int32), qS l g mX12_met (d + 3) n 0 0 0 0 cvI 39 [(0, .ref x0), (1, .int x1), (2, .int x2), (3, .int x3), (4, .int x4)] [] (WX12_met_39 K137 N x0 x1 x2 x3 x4) := by
  intro N
  induction N with
  | zero => intro x0 x1 x2 x3 x4; exact s_fail
  | succ N ih => intro x0 x1 x2 x3 x4; exact UX12_met_39_ok ih hK137 x0 x1 x2 x3 x4
def UX12_met_137 (x0 : Nat) (x2 : Int32) (x4 : Int32) : qP Int32 :=
if x2 = (-1 : Int32) then (
qr x4) else (
if x4 ≤ x2 then (
qr (-5 : Int32)) else (
qb (gR 12 x0 11) fun v1 =>
qb (aI v1 x2) fun v2 =>
qr v2))
set_option maxRecDepth 100000 in
set_option maxHeartbeats 4000000 in
theorem UX12_met_137_ok {l : Launch} {g : qG} {d n : Nat} (x0 : Nat) (x2 : Int32) (x4 : Int32) : qS l g mX12_met (d + 3) n 0 0 0 0 cvI 137 [(0, .ref x0), (2, .int x2), (4, .int x4)] [] (UX12_met_137 x0 x2 x4) := by
  unfold UX12_met_137
  refine s_iload_n dX12_met_137 rfl ?_
  refine s_iconst (v := -1) dX12_met_138 (by decide) ?_
  refine s_icmp_ne (tgt := 147) dX12_met_139 (by decide) (fun c1 => ?_) (fun c1 => ?_)
  · refine s_iload dX12_met_142 rfl ?_
    refine s_goto (tgt := 164) dX12_met_144 (by decide) ?_
    exact s_ireturn dX12_met_164 rfl rfl
  · refine s_iload_n dX12_met_147 rfl ?_
    refine s_iload dX12_met_148 rfl ?_
    refine s_icmp_ge (tgt := 162) dX12_met_150 (by decide) (fun c2 => ?_) (fun c2 => ?_)
    · refine s_bipush (v := -5) dX12_met_162 (by decide) ?_
      exact s_ireturn dX12_met_164 rfl rfl
    · refine s_aload_n dX12_met_153 rfl ?_
      refine s_gR dX12_met_154 fX12_35 fun v1 => ?_
      refine s_iload_n dX12_met_157 rfl ?_
      refine s_aI dX12_met_158 fun v2 => ?_
      refine s_goto (tgt := 164) dX12_met_159 (by decide) ?_
      exact s_ireturn dX12_met_164 rfl rfl
def FX12_met (x0 : Nat) (x1 : Int32) (x2 : Int32) : qP Int32 :=
qb (FX12_in (x1).toInt64 (0 : Int64) (25 : Int64)) fun v1 =>
if v1 = 0 then (
UX12_met_17 x0) else (
if (-1 : Int32) ≤ x2 then (
qb (gR 12 x0 0) fun v2 =>
qb (aI v2 (3 : Int32)) fun v3 =>
qb (qcl 12 x0) fun _ => qb (FX12_silentIn x0 v3) fun v4 =>
WX12_met_39 (UX12_met_137) 1000000 x0 x1 x2 v4 (0 : Int32)) else (
UX12_met_17 x0))
set_option maxRecDepth 100000 in
set_option maxHeartbeats 4000000 in
theorem FX12_met_ok {l : Launch} {g : qG} {d n : Nat} (x0 : Nat) (x1 : Int32) (x2 : Int32) : qS l g mX12_met (d + 3) n 0 0 0 0 cvI 0 [(0, .ref x0), (1, .int x1), (2, .int x2)] [] (FX12_met x0 x1 x2) := by
  unfold FX12_met
  refine s_iload_n dX12_met_0 rfl ?_
  refine s_i2l dX12_met_1 ?_
  refine s_lconst (v := 0) dX12_met_2 (by decide) ?_
  refine s_ldc2 dX12_met_3 lX12_144 ?_
  refine s_staticI (as := [.long (x1).toInt64, .long (0 : Int64), .long (25 : Int64)]) (rest := []) dX12_met_6 sX12_59 (CX12_in _ _ _) (Nat.le_of_ble_eq_true rfl) ⟨Nat.le_refl _, Nat.le_refl _⟩ fun v1 => ?_
  refine s_if_eq (tgt := 17) dX12_met_9 (by decide) (fun c1 => ?_) (fun c1 => ?_)
  · refine s_locals [0] rfl ?_
    exact UX12_met_17_ok x0
  · refine s_iload_n dX12_met_12 rfl ?_
    refine s_iconst (v := -1) dX12_met_13 (by decide) ?_
    refine s_icmp_ge (tgt := 25) dX12_met_14 (by decide) (fun c2 => ?_) (fun c2 => ?_)
    · refine s_aload_n dX12_met_25 rfl ?_
      refine s_aload_n dX12_met_26 rfl ?_
      refine s_gR dX12_met_27 fX12_7 fun v2 => ?_
      refine s_iconst (v := 3) dX12_met_30 (by decide) ?_
      refine s_aI dX12_met_31 fun v3 => ?_
      refine s_virtI (as := [.int v3]) (rest := []) dX12_met_32 vX12_154 (CX12_silentIn _ _) (Nat.le_of_ble_eq_true rfl) ⟨Nat.le_refl _, Nat.le_refl _⟩ fun v4 => ?_
      refine s_istore_n (lv' := [(3, .int v4), (0, .ref x0), (1, .int x1), (2, .int x2)]) dX12_met_35 (by decide) rfl ?_
      refine s_iconst (v := 0) dX12_met_36 (by decide) ?_
      refine s_istore (lv' := [(4, .int (0 : Int32)), (3, .int v4), (0, .ref x0), (1, .int x1), (2, .int x2)]) dX12_met_37 (by decide) rfl ?_
      refine s_locals [2, 3, 4, 1, 0] rfl ?_
      exact WX12_met_39_ok (UX12_met_137_ok) 1000000 x0 x1 x2 v4 (0 : Int32)
    · refine s_locals [0] rfl ?_
      exact UX12_met_17_ok x0
theorem CX12_met {l : Launch} {g : qG} {d : Nat} (x0 : Nat) (x1 : Int32) (x2 : Int32) : qCt l g mX12_met (d + 3) 0 0 cvI [.ref x0, .int x1, .int x2] (FX12_met x0 x1 x2) := s_of pn_X12 (Nat.le_of_ble_eq_true rfl) fun n => FX12_met_ok x0 x1 x2
def UX12_show_22 (x0 : Nat) : qP Int32 :=
qb (qcl 12 x0) fun _ => qb (FX12_bad x0) fun v1 =>
qr v1
set_option maxRecDepth 100000 in
set_option maxHeartbeats 4000000 in
theorem UX12_show_22_ok {l : Launch} {g : qG} {d n : Nat} (x0 : Nat) : qS l g mX12_show (d + 2) n 0 0 0 0 cvI 22 [(0, .ref x0)] [] (UX12_show_22 x0) := by
  unfold UX12_show_22
  refine s_aload_n dX12_show_22 rfl ?_
  refine s_virtI (as := []) (rest := []) dX12_show_23 vX12_74 (CX12_bad _) (Nat.le_of_ble_eq_true rfl) ⟨Nat.le_refl _, Nat.le_refl _⟩ fun v1 => ?_
  exact s_ireturn dX12_show_26 rfl rfl
def FX12_show (x0 : Nat) (x1 : Int32) (x2 : Int32) : qP Int32 :=
qb (FX12_in (x1).toInt64 (0 : Int64) (1 : Int64)) fun v1 =>
if v1 = 0 then (
UX12_show_22 x0) else (
qb (FX12_in (x2).toInt64 (1 : Int64) (9 : Int64)) fun v2 =>
if v2 = 0 then (
UX12_show_22 x0) else (
qb (gR 12 x0 0) fun v3 =>
qb (aI v3 ((4 : Int32) + x1)) fun v4 =>
if v4 = (4 : Int32) then (
qb (qcl 12 x0) fun _ => qb (FX12_full x0) fun v5 =>
qr v5) else (
qb (gR 12 x0 0) fun v6 =>
qb (gR 12 x0 0) fun v7 =>
qb (aI v7 ((4 : Int32) + x1)) fun v8 =>
qb (sI v6 (((125 : Int32) + ((4 : Int32) * x1)) + v8) x2) fun _ =>
qb (gR 12 x0 0) fun v9 =>
qb (aI v9 ((4 : Int32) + x1)) fun v10 =>
qb (sI v9 ((4 : Int32) + x1) (v10 + (1 : Int32))) fun _ =>
qb (gR 12 x0 0) fun v11 =>
qb (aI v11 ((4 : Int32) + x1)) fun v12 =>
qr (v12 - (1 : Int32)))))
set_option maxRecDepth 100000 in
set_option maxHeartbeats 4000000 in
theorem FX12_show_ok {l : Launch} {g : qG} {d n : Nat} (x0 : Nat) (x1 : Int32) (x2 : Int32) : qS l g mX12_show (d + 2) n 0 0 0 0 cvI 0 [(0, .ref x0), (1, .int x1), (2, .int x2)] [] (FX12_show x0 x1 x2) := by
  unfold FX12_show
  refine s_iload_n dX12_show_0 rfl ?_
  refine s_i2l dX12_show_1 ?_
  refine s_lconst (v := 0) dX12_show_2 (by decide) ?_
  refine s_lconst (v := 1) dX12_show_3 (by decide) ?_
  refine s_staticI (as := [.long (x1).toInt64, .long (0 : Int64), .long (1 : Int64)]) (rest := []) dX12_show_4 sX12_59 (CX12_in _ _ _) (Nat.le_of_ble_eq_true rfl) ⟨Nat.le_refl _, Nat.le_refl _⟩ fun v1 => ?_
  refine s_if_eq (tgt := 22) dX12_show_7 (by decide) (fun c1 => ?_) (fun c1 => ?_)
  · refine s_locals [0] rfl ?_
    exact UX12_show_22_ok x0
  · refine s_iload_n dX12_show_10 rfl ?_
    refine s_i2l dX12_show_11 ?_
    refine s_lconst (v := 1) dX12_show_12 (by decide) ?_
    refine s_ldc2 dX12_show_13 lX12_157 ?_
    refine s_staticI (as := [.long (x2).toInt64, .long (1 : Int64), .long (9 : Int64)]) (rest := []) dX12_show_16 sX12_59 (CX12_in _ _ _) (Nat.le_of_ble_eq_true rfl) ⟨Nat.le_refl _, Nat.le_refl _⟩ fun v2 => ?_
    refine s_if_ne (tgt := 27) dX12_show_19 (by decide) (fun c2 => ?_) (fun c2 => ?_)
    · refine s_locals [0] rfl ?_
      exact UX12_show_22_ok x0
    · refine s_aload_n dX12_show_27 rfl ?_
      refine s_gR dX12_show_28 fX12_7 fun v3 => ?_
      refine s_iconst (v := 4) dX12_show_31 (by decide) ?_
      refine s_iload_n dX12_show_32 rfl ?_
      refine s_iadd dX12_show_33 ?_
      refine s_aI dX12_show_34 fun v4 => ?_
      refine s_iconst (v := 4) dX12_show_35 (by decide) ?_
      refine s_icmp_ne (tgt := 44) dX12_show_36 (by decide) (fun c3 => ?_) (fun c3 => ?_)
      · refine s_aload_n dX12_show_39 rfl ?_
        refine s_virtI (as := []) (rest := []) dX12_show_40 vX12_78 (CX12_full _) (Nat.le_of_ble_eq_true rfl) ⟨Nat.le_refl _, Nat.le_refl _⟩ fun v5 => ?_
        exact s_ireturn dX12_show_43 rfl rfl
      · refine s_aload_n dX12_show_44 rfl ?_
        refine s_gR dX12_show_45 fX12_7 fun v6 => ?_
        refine s_bipush (v := 125) dX12_show_48 (by decide) ?_
        refine s_iconst (v := 4) dX12_show_50 (by decide) ?_
        refine s_iload_n dX12_show_51 rfl ?_
        refine s_imul dX12_show_52 ?_
        refine s_iadd dX12_show_53 ?_
        refine s_aload_n dX12_show_54 rfl ?_
        refine s_gR dX12_show_55 fX12_7 fun v7 => ?_
        refine s_iconst (v := 4) dX12_show_58 (by decide) ?_
        refine s_iload_n dX12_show_59 rfl ?_
        refine s_iadd dX12_show_60 ?_
        refine s_aI dX12_show_61 fun v8 => ?_
        refine s_iadd dX12_show_62 ?_
        refine s_iload_n dX12_show_63 rfl ?_
        refine s_sI dX12_show_64 ?_
        refine s_aload_n dX12_show_65 rfl ?_
        refine s_gR dX12_show_66 fX12_7 fun v9 => ?_
        refine s_iconst (v := 4) dX12_show_69 (by decide) ?_
        refine s_iload_n dX12_show_70 rfl ?_
        refine s_iadd dX12_show_71 ?_
        refine s_dup2 dX12_show_72 rfl rfl ?_
        refine s_aI dX12_show_73 fun v10 => ?_
        refine s_iconst (v := 1) dX12_show_74 (by decide) ?_
        refine s_iadd dX12_show_75 ?_
        refine s_sI dX12_show_76 ?_
        refine s_aload_n dX12_show_77 rfl ?_
        refine s_gR dX12_show_78 fX12_7 fun v11 => ?_
        refine s_iconst (v := 4) dX12_show_81 (by decide) ?_
        refine s_iload_n dX12_show_82 rfl ?_
        refine s_iadd dX12_show_83 ?_
        refine s_aI dX12_show_84 fun v12 => ?_
        refine s_iconst (v := 1) dX12_show_85 (by decide) ?_
        refine s_isub dX12_show_86 ?_
        exact s_ireturn dX12_show_87 rfl rfl
theorem CX12_show {l : Launch} {g : qG} {d : Nat} (x0 : Nat) (x1 : Int32) (x2 : Int32) : qCt l g mX12_show (d + 2) 0 0 cvI [.ref x0, .int x1, .int x2] (FX12_show x0 x1 x2) := s_of pn_X12 (Nat.le_of_ble_eq_true rfl) fun n => FX12_show_ok x0 x1 x2
def FX12_noTrial (x0 : Nat) : qP Int32 :=
qb (gR 12 x0 0) fun v1 =>
qb (aI v1 (4 : Int32)) fun v2 =>
qb (gR 12 x0 0) fun v3 =>
qb (aI v3 (5 : Int32)) fun v4 =>
qb (gR 12 x0 0) fun v5 =>
qb (sI v5 (4 : Int32) (0 : Int32)) fun _ =>
qb (gR 12 x0 0) fun v6 =>
qb (sI v6 (5 : Int32) (0 : Int32)) fun _ =>
qr (v2 + v4)
set_option maxRecDepth 100000 in
set_option maxHeartbeats 4000000 in
theorem FX12_noTrial_ok {l : Launch} {g : qG} {d n : Nat} (x0 : Nat) : qS l g mX12_noTrial d n 0 0 0 0 cvI 0 [(0, .ref x0)] [] (FX12_noTrial x0) := by
  unfold FX12_noTrial
  refine s_aload_n dX12_noTrial_0 rfl ?_
  refine s_gR dX12_noTrial_1 fX12_7 fun v1 => ?_
  refine s_iconst (v := 4) dX12_noTrial_4 (by decide) ?_
  refine s_aI dX12_noTrial_5 fun v2 => ?_
  refine s_aload_n dX12_noTrial_6 rfl ?_
  refine s_gR dX12_noTrial_7 fX12_7 fun v3 => ?_
  refine s_iconst (v := 5) dX12_noTrial_10 (by decide) ?_
  refine s_aI dX12_noTrial_11 fun v4 => ?_
  refine s_iadd dX12_noTrial_12 ?_
  refine s_istore_n (lv' := [(1, .int (v2 + v4)), (0, .ref x0)]) dX12_noTrial_13 (by decide) rfl ?_
  refine s_aload_n dX12_noTrial_14 rfl ?_
  refine s_gR dX12_noTrial_15 fX12_7 fun v5 => ?_
  refine s_iconst (v := 4) dX12_noTrial_18 (by decide) ?_
  refine s_iconst (v := 0) dX12_noTrial_19 (by decide) ?_
  refine s_sI dX12_noTrial_20 ?_
  refine s_aload_n dX12_noTrial_21 rfl ?_
  refine s_gR dX12_noTrial_22 fX12_7 fun v6 => ?_
  refine s_iconst (v := 5) dX12_noTrial_25 (by decide) ?_
  refine s_iconst (v := 0) dX12_noTrial_26 (by decide) ?_
  refine s_sI dX12_noTrial_27 ?_
  refine s_iload_n dX12_noTrial_28 rfl ?_
  exact s_ireturn dX12_noTrial_29 rfl rfl
theorem CX12_noTrial {l : Launch} {g : qG} {d : Nat} (x0 : Nat) : qCt l g mX12_noTrial d 0 0 cvI [.ref x0] (FX12_noTrial x0) := s_of pn_X12 (Nat.le_of_ble_eq_true rfl) fun n => FX12_noTrial_ok x0
def UX12_weightOf_5 (R : Nat → Int32 → Int32 → Int32 → Int32 → qP Int32) (x0 : Nat) (x1 : Int32) (x2 : Int32) (x3 : Int32) (x4 : Int32) : qP Int32 :=
qb (gR 12 x0 0) fun v1 =>
qb (aI v1 ((4 : Int32) + x1)) fun v2 =>
if v2 ≤ x4 then (
qr x3) else (
qb (gR 12 x0 0) fun v3 =>
qb (aI v3 (((125 : Int32) + ((4 : Int32) * x1)) + x4)) fun v4 =>
R x0 x1 x2 (x3 + (((x2 >>> (x4 &&& 31)) &&& (1 : Int32)) * v4)) (x4 + 1))
set_option maxRecDepth 100000 in
set_option maxHeartbeats 4000000 in
theorem UX12_weightOf_5_ok {l : Launch} {g : qG} {d n : Nat} {R : Nat → Int32 → Int32 → Int32 → Int32 → qP Int32} (hR : ∀ (x0 : Nat) (x1 : Int32) (x2 : Int32) (x3 : Int32) (x4 : Int32), qS l g mX12_weightOf d n 0 0 0 0 cvI 5 [(0, .ref x0), (1, .int x1), (2, .int x2), (3, .int x3), (4, .int x4)] [] (R x0 x1 x2 x3 x4)) (x0 : Nat) (x1 : Int32) (x2 : Int32) (x3 : Int32) (x4 : Int32) : qS l g mX12_weightOf d n 0 0 0 0 cvI 5 [(0, .ref x0), (1, .int x1), (2, .int x2), (3, .int x3), (4, .int x4)] [] (UX12_weightOf_5 R x0 x1 x2 x3 x4) := by
  unfold UX12_weightOf_5
  refine s_iload dX12_weightOf_5 rfl ?_
  refine s_aload_n dX12_weightOf_7 rfl ?_
  refine s_gR dX12_weightOf_8 fX12_7 fun v1 => ?_
  refine s_iconst (v := 4) dX12_weightOf_11 (by decide) ?_
  refine s_iload_n dX12_weightOf_12 rfl ?_
  refine s_iadd dX12_weightOf_13 ?_
  refine s_aI dX12_weightOf_14 fun v2 => ?_
  refine s_icmp_ge (tgt := 48) dX12_weightOf_15 (by decide) (fun c1 => ?_) (fun c1 => ?_)
  · refine s_iload_n dX12_weightOf_48 rfl ?_
    exact s_ireturn dX12_weightOf_49 rfl rfl
  · refine s_iload_n dX12_weightOf_18 rfl ?_
    refine s_iload_n dX12_weightOf_19 rfl ?_
    refine s_iload dX12_weightOf_20 rfl ?_
    refine s_ishr dX12_weightOf_22 ?_
    refine s_iconst (v := 1) dX12_weightOf_23 (by decide) ?_
    refine s_iand dX12_weightOf_24 ?_
    refine s_aload_n dX12_weightOf_25 rfl ?_
    refine s_gR dX12_weightOf_26 fX12_7 fun v3 => ?_
    refine s_bipush (v := 125) dX12_weightOf_29 (by decide) ?_
    refine s_iconst (v := 4) dX12_weightOf_31 (by decide) ?_
    refine s_iload_n dX12_weightOf_32 rfl ?_
    refine s_imul dX12_weightOf_33 ?_
    refine s_iadd dX12_weightOf_34 ?_
    refine s_iload dX12_weightOf_35 rfl ?_
    refine s_iadd dX12_weightOf_37 ?_
    refine s_aI dX12_weightOf_38 fun v4 => ?_
    refine s_imul dX12_weightOf_39 ?_
    refine s_iadd dX12_weightOf_40 ?_
    refine s_istore_n (lv' := [(3, .int (x3 + (((x2 >>> (x4 &&& 31)) &&& (1 : Int32)) * v4))), (0, .ref x0), (1, .int x1), (2, .int x2), (4, .int x4)]) dX12_weightOf_41 (by decide) rfl ?_
    refine s_iinc (lv' := [(4, .int (x4 + 1)), (3, .int (x3 + (((x2 >>> (x4 &&& 31)) &&& (1 : Int32)) * v4))), (0, .ref x0), (1, .int x1), (2, .int x2)]) dX12_weightOf_42 rfl (by decide) rfl ?_
    refine s_goto (tgt := 5) dX12_weightOf_45 (by decide) ?_
    refine s_locals [2, 3, 4, 1, 0] rfl ?_
    exact hR x0 x1 x2 (x3 + (((x2 >>> (x4 &&& 31)) &&& (1 : Int32)) * v4)) (x4 + 1)
def WX12_weightOf_5 : Nat → Nat → Int32 → Int32 → Int32 → Int32 → qP Int32
  | 0 => fun _ _ _ _ _ => qfail
  | N + 1 => fun x0 x1 x2 x3 x4 => UX12_weightOf_5 (WX12_weightOf_5  N)  x0 x1 x2 x3 x4
theorem WX12_weightOf_5_ok {l : Launch} {g : qG} {d n : Nat} : ∀ (N : Nat) (x0 : Nat) (x1 : Int32) (x2 : Int32) (x3 : Int32) (x4 : Int32), qS l g mX12_weightOf d n 0 0 0 0 cvI 5 [(0, .ref x0), (1, .int x1), (2, .int x2), (3, .int x3), (4, .int x4)] [] (WX12_weightOf_5  N x0 x1 x2 x3 x4) := by
  intro N
  induction N with
  | zero => intro x0 x1 x2 x3 x4; exact s_fail
  | succ N ih => intro x0 x1 x2 x3 x4; exact UX12_weightOf_5_ok ih  x0 x1 x2 x3 x4
def FX12_weightOf (x0 : Nat) (x1 : Int32) (x2 : Int32) : qP Int32 :=
WX12_weightOf_5 1000000 x0 x1 x2 (0 : Int32) (0 : Int32)
set_option maxRecDepth 100000 in
set_option maxHeartbeats 4000000 in
theorem FX12_weightOf_ok {l : Launch} {g : qG} {d n : Nat} (x0 : Nat) (x1 : Int32) (x2 : Int32) : qS l g mX12_weightOf d n 0 0 0 0 cvI 0 [(0, .ref x0), (1, .int x1), (2, .int x2)] [] (FX12_weightOf x0 x1 x2) := by
  unfold FX12_weightOf
  refine s_iconst (v := 0) dX12_weightOf_0 (by decide) ?_
  refine s_istore_n (lv' := [(3, .int (0 : Int32)), (0, .ref x0), (1, .int x1), (2, .int x2)]) dX12_weightOf_1 (by decide) rfl ?_
  refine s_iconst (v := 0) dX12_weightOf_2 (by decide) ?_
  refine s_istore (lv' := [(4, .int (0 : Int32)), (3, .int (0 : Int32)), (0, .ref x0), (1, .int x1), (2, .int x2)]) dX12_weightOf_3 (by decide) rfl ?_
  refine s_locals [2, 3, 4, 1, 0] rfl ?_
  exact WX12_weightOf_5_ok  1000000 x0 x1 x2 (0 : Int32) (0 : Int32)
theorem CX12_weightOf {l : Launch} {g : qG} {d : Nat} (x0 : Nat) (x1 : Int32) (x2 : Int32) : qCt l g mX12_weightOf d 0 0 cvI [.ref x0, .int x1, .int x2] (FX12_weightOf x0 x1 x2) := s_of pn_X12 (Nat.le_of_ble_eq_true rfl) fun n => FX12_weightOf_ok x0 x1 x2
def FX12_behind (x0 : Nat) (x1 : Int32) (x2 : Int32) (x3 : Int32) (x4 : Int32) : qP Int32 :=
qb (qcl 12 x0) fun _ => qb (FX12_weightOf x0 (0 : Int32) x1) fun v1 =>
qb (qcl 12 x0) fun _ => qb (FX12_weightOf x0 (1 : Int32) x2) fun v2 =>
if (v1 - v2) < x4 then (
qb (gR 12 x0 12) fun v3 =>
qb (aI v3 ((((32 : Int32) * x1) + ((2 : Int32) * x2)) + x3)) fun v4 =>
qr v4) else (
qr (0 : Int32))
set_option maxRecDepth 100000 in
set_option maxHeartbeats 4000000 in
theorem FX12_behind_ok {l : Launch} {g : qG} {d n : Nat} (x0 : Nat) (x1 : Int32) (x2 : Int32) (x3 : Int32) (x4 : Int32) : qS l g mX12_behind (d + 1) n 0 0 0 0 cvI 0 [(0, .ref x0), (1, .int x1), (2, .int x2), (3, .int x3), (4, .int x4)] [] (FX12_behind x0 x1 x2 x3 x4) := by
  unfold FX12_behind
  refine s_aload_n dX12_behind_0 rfl ?_
  refine s_iconst (v := 0) dX12_behind_1 (by decide) ?_
  refine s_iload_n dX12_behind_2 rfl ?_
  refine s_virtI (as := [.int (0 : Int32), .int x1]) (rest := []) dX12_behind_3 vX12_159 (CX12_weightOf _ _ _) (Nat.le_of_ble_eq_true rfl) ⟨Nat.le_refl _, Nat.le_refl _⟩ fun v1 => ?_
  refine s_aload_n dX12_behind_6 rfl ?_
  refine s_iconst (v := 1) dX12_behind_7 (by decide) ?_
  refine s_iload_n dX12_behind_8 rfl ?_
  refine s_virtI (as := [.int (1 : Int32), .int x2]) (rest := [.int v1]) dX12_behind_9 vX12_159 (CX12_weightOf _ _ _) (Nat.le_of_ble_eq_true rfl) ⟨Nat.le_refl _, Nat.le_refl _⟩ fun v2 => ?_
  refine s_isub dX12_behind_12 ?_
  refine s_iload dX12_behind_13 rfl ?_
  refine s_icmp_lt (tgt := 22) dX12_behind_15 (by decide) (fun c1 => ?_) (fun c1 => ?_)
  · refine s_aload_n dX12_behind_22 rfl ?_
    refine s_gR dX12_behind_23 fX12_38 fun v3 => ?_
    refine s_bipush (v := 32) dX12_behind_26 (by decide) ?_
    refine s_iload_n dX12_behind_28 rfl ?_
    refine s_imul dX12_behind_29 ?_
    refine s_iconst (v := 2) dX12_behind_30 (by decide) ?_
    refine s_iload_n dX12_behind_31 rfl ?_
    refine s_imul dX12_behind_32 ?_
    refine s_iadd dX12_behind_33 ?_
    refine s_iload_n dX12_behind_34 rfl ?_
    refine s_iadd dX12_behind_35 ?_
    refine s_aI dX12_behind_36 fun v4 => ?_
    exact s_ireturn dX12_behind_37 rfl rfl
  · refine s_iconst (v := 0) dX12_behind_18 (by decide) ?_
    refine s_goto (tgt := 37) dX12_behind_19 (by decide) ?_
    exact s_ireturn dX12_behind_37 rfl rfl
theorem CX12_behind {l : Launch} {g : qG} {d : Nat} (x0 : Nat) (x1 : Int32) (x2 : Int32) (x3 : Int32) (x4 : Int32) : qCt l g mX12_behind (d + 1) 0 0 cvI [.ref x0, .int x1, .int x2, .int x3, .int x4] (FX12_behind x0 x1 x2 x3 x4) := s_of pn_X12 (Nat.le_of_ble_eq_true rfl) fun n => FX12_behind_ok x0 x1 x2 x3 x4
def UX12_reckons_73 (R : Nat → Int32 → Int32 → Int32 → Int32 → Int32 → Int32 → qP Unit) (K88 : Nat → Int32 → Int32 → Int32 → Int32 → Int32 → qP Unit) (x0 : Nat) (x1 : Int32) (x2 : Int32) (x3 : Int32) (x5 : Int32) (x6 : Int32) (x7 : Int32) : qP Unit :=
R x0 x1 x2 x3 x7 x5 (x6 + 1)
set_option maxRecDepth 100000 in
set_option maxHeartbeats 4000000 in
theorem UX12_reckons_73_ok {l : Launch} {g : qG} {d n : Nat} {R : Nat → Int32 → Int32 → Int32 → Int32 → Int32 → Int32 → qP Unit} (hR : ∀ (x0 : Nat) (x1 : Int32) (x2 : Int32) (x3 : Int32) (x4 : Int32) (x5 : Int32) (x6 : Int32), qS l g mX12_reckons (d + 2) n 0 0 0 0 cvV 23 [(0, .ref x0), (1, .int x1), (2, .int x2), (3, .int x3), (4, .int x4), (5, .int x5), (6, .int x6)] [] (R x0 x1 x2 x3 x4 x5 x6)) {K88 : Nat → Int32 → Int32 → Int32 → Int32 → Int32 → qP Unit} (hK88 : ∀ (x0 : Nat) (x1 : Int32) (x2 : Int32) (x3 : Int32) (x4 : Int32) (x5 : Int32), qS l g mX12_reckons (d + 2) n 0 0 0 0 cvV 88 [(0, .ref x0), (1, .int x1), (2, .int x2), (3, .int x3), (4, .int x4), (5, .int x5)] [] (K88 x0 x1 x2 x3 x4 x5)) (x0 : Nat) (x1 : Int32) (x2 : Int32) (x3 : Int32) (x5 : Int32) (x6 : Int32) (x7 : Int32) : qS l g mX12_reckons (d + 2) n 0 0 0 0 cvV 73 [(0, .ref x0), (1, .int x1), (2, .int x2), (3, .int x3), (5, .int x5), (6, .int x6), (7, .int x7)] [] (UX12_reckons_73 R K88 x0 x1 x2 x3 x5 x6 x7) := by
  unfold UX12_reckons_73
  refine s_iload dX12_reckons_73 rfl ?_
  refine s_goto (tgt := 80) dX12_reckons_75 (by decide) ?_
  refine s_istore (lv' := [(4, .int x7), (0, .ref x0), (1, .int x1), (2, .int x2), (3, .int x3), (5, .int x5), (6, .int x6), (7, .int x7)]) dX12_reckons_80 (by decide) rfl ?_
  refine s_iinc (lv' := [(6, .int (x6 + 1)), (4, .int x7), (0, .ref x0), (1, .int x1), (2, .int x2), (3, .int x3), (5, .int x5), (7, .int x7)]) dX12_reckons_82 rfl (by decide) rfl ?_
  refine s_goto (tgt := 23) dX12_reckons_85 (by decide) ?_
  refine s_locals [2, 3, 4, 5, 1, 6, 0] rfl ?_
  exact hR x0 x1 x2 x3 x7 x5 (x6 + 1)
def UX12_reckons_23 (R : Nat → Int32 → Int32 → Int32 → Int32 → Int32 → Int32 → qP Unit) (K88 : Nat → Int32 → Int32 → Int32 → Int32 → Int32 → qP Unit) (x0 : Nat) (x1 : Int32) (x2 : Int32) (x3 : Int32) (x4 : Int32) (x5 : Int32) (x6 : Int32) : qP Unit :=
qb (gR 12 x0 0) fun v1 =>
qb (aI v1 (4 : Int32)) fun v2 =>
if v2 ≤ x6 then (
K88 x0 x1 x2 x3 x4 x5) else (
if ((x2 >>> (x6 &&& 31)) &&& (1 : Int32)) = 0 then (
qb (qcl 12 x0) fun _ => qb (FX12_behind x0 (x2 ||| ((1 : Int32) <<< (x6 &&& 31))) x3 (1 : Int32) x1) fun v3 =>
if x4 = (-1 : Int32) then (
UX12_reckons_73 R K88 x0 x1 x2 x3 x5 x6 ((1 : Int32) + v3)) else (
if x4 ≤ ((1 : Int32) + v3) then (
R x0 x1 x2 x3 x4 x5 (x6 + 1)) else (
UX12_reckons_73 R K88 x0 x1 x2 x3 x5 x6 ((1 : Int32) + v3)))) else (
R x0 x1 x2 x3 x4 x5 (x6 + 1)))
set_option maxRecDepth 100000 in
set_option maxHeartbeats 4000000 in
theorem UX12_reckons_23_ok {l : Launch} {g : qG} {d n : Nat} {R : Nat → Int32 → Int32 → Int32 → Int32 → Int32 → Int32 → qP Unit} (hR : ∀ (x0 : Nat) (x1 : Int32) (x2 : Int32) (x3 : Int32) (x4 : Int32) (x5 : Int32) (x6 : Int32), qS l g mX12_reckons (d + 2) n 0 0 0 0 cvV 23 [(0, .ref x0), (1, .int x1), (2, .int x2), (3, .int x3), (4, .int x4), (5, .int x5), (6, .int x6)] [] (R x0 x1 x2 x3 x4 x5 x6)) {K88 : Nat → Int32 → Int32 → Int32 → Int32 → Int32 → qP Unit} (hK88 : ∀ (x0 : Nat) (x1 : Int32) (x2 : Int32) (x3 : Int32) (x4 : Int32) (x5 : Int32), qS l g mX12_reckons (d + 2) n 0 0 0 0 cvV 88 [(0, .ref x0), (1, .int x1), (2, .int x2), (3, .int x3), (4, .int x4), (5, .int x5)] [] (K88 x0 x1 x2 x3 x4 x5)) (x0 : Nat) (x1 : Int32) (x2 : Int32) (x3 : Int32) (x4 : Int32) (x5 : Int32) (x6 : Int32) : qS l g mX12_reckons (d + 2) n 0 0 0 0 cvV 23 [(0, .ref x0), (1, .int x1), (2, .int x2), (3, .int x3), (4, .int x4), (5, .int x5), (6, .int x6)] [] (UX12_reckons_23 R K88 x0 x1 x2 x3 x4 x5 x6) := by
  unfold UX12_reckons_23
  refine s_iload dX12_reckons_23 rfl ?_
  refine s_aload_n dX12_reckons_25 rfl ?_
  refine s_gR dX12_reckons_26 fX12_7 fun v1 => ?_
  refine s_iconst (v := 4) dX12_reckons_29 (by decide) ?_
  refine s_aI dX12_reckons_30 fun v2 => ?_
  refine s_icmp_ge (tgt := 88) dX12_reckons_31 (by decide) (fun c1 => ?_) (fun c1 => ?_)
  · refine s_locals [0, 1, 2, 3, 4, 5] rfl ?_
    exact hK88 x0 x1 x2 x3 x4 x5
  · refine s_iload_n dX12_reckons_34 rfl ?_
    refine s_iload dX12_reckons_35 rfl ?_
    refine s_ishr dX12_reckons_37 ?_
    refine s_iconst (v := 1) dX12_reckons_38 (by decide) ?_
    refine s_iand dX12_reckons_39 ?_
    refine s_if_ne (tgt := 82) dX12_reckons_40 (by decide) (fun c2 => ?_) (fun c2 => ?_)
    · refine s_iconst (v := 1) dX12_reckons_43 (by decide) ?_
      refine s_aload_n dX12_reckons_44 rfl ?_
      refine s_iload_n dX12_reckons_45 rfl ?_
      refine s_iconst (v := 1) dX12_reckons_46 (by decide) ?_
      refine s_iload dX12_reckons_47 rfl ?_
      refine s_ishl dX12_reckons_49 ?_
      refine s_ior dX12_reckons_50 ?_
      refine s_iload_n dX12_reckons_51 rfl ?_
      refine s_iconst (v := 1) dX12_reckons_52 (by decide) ?_
      refine s_iload_n dX12_reckons_53 rfl ?_
      refine s_virtI (as := [.int (x2 ||| ((1 : Int32) <<< (x6 &&& 31))), .int x3, .int (1 : Int32), .int x1]) (rest := [.int (1 : Int32)]) dX12_reckons_54 vX12_162 (CX12_behind _ _ _ _ _) (Nat.le_of_ble_eq_true rfl) ⟨Nat.le_refl _, Nat.le_refl _⟩ fun v3 => ?_
      refine s_iadd dX12_reckons_57 ?_
      refine s_istore (lv' := [(7, .int ((1 : Int32) + v3)), (0, .ref x0), (1, .int x1), (2, .int x2), (3, .int x3), (4, .int x4), (5, .int x5), (6, .int x6)]) dX12_reckons_58 (by decide) rfl ?_
      refine s_iload dX12_reckons_60 rfl ?_
      refine s_iconst (v := -1) dX12_reckons_62 (by decide) ?_
      refine s_icmp_eq (tgt := 73) dX12_reckons_63 (by decide) (fun c3 => ?_) (fun c3 => ?_)
      · refine s_locals [1, 2, 3, 4, 6, 7, 0] rfl ?_
        exact UX12_reckons_73_ok hR hK88 x0 x1 x2 x3 x5 x6 ((1 : Int32) + v3)
      · refine s_iload dX12_reckons_66 rfl ?_
        refine s_iload dX12_reckons_68 rfl ?_
        refine s_icmp_ge (tgt := 78) dX12_reckons_70 (by decide) (fun c4 => ?_) (fun c4 => ?_)
        · refine s_iload dX12_reckons_78 rfl ?_
          refine s_istore (lv' := [(4, .int x4), (7, .int ((1 : Int32) + v3)), (0, .ref x0), (1, .int x1), (2, .int x2), (3, .int x3), (5, .int x5), (6, .int x6)]) dX12_reckons_80 (by decide) rfl ?_
          refine s_iinc (lv' := [(6, .int (x6 + 1)), (4, .int x4), (7, .int ((1 : Int32) + v3)), (0, .ref x0), (1, .int x1), (2, .int x2), (3, .int x3), (5, .int x5)]) dX12_reckons_82 rfl (by decide) rfl ?_
          refine s_goto (tgt := 23) dX12_reckons_85 (by decide) ?_
          refine s_locals [3, 4, 5, 6, 1, 7, 0] rfl ?_
          exact hR x0 x1 x2 x3 x4 x5 (x6 + 1)
        · refine s_locals [1, 2, 3, 4, 6, 7, 0] rfl ?_
          exact UX12_reckons_73_ok hR hK88 x0 x1 x2 x3 x5 x6 ((1 : Int32) + v3)
    · refine s_iinc (lv' := [(6, .int (x6 + 1)), (0, .ref x0), (1, .int x1), (2, .int x2), (3, .int x3), (4, .int x4), (5, .int x5)]) dX12_reckons_82 rfl (by decide) rfl ?_
      refine s_goto (tgt := 23) dX12_reckons_85 (by decide) ?_
      refine s_locals [1, 2, 3, 4, 5, 6, 0] rfl ?_
      exact hR x0 x1 x2 x3 x4 x5 (x6 + 1)
def WX12_reckons_23 (K88 : Nat → Int32 → Int32 → Int32 → Int32 → Int32 → qP Unit) : Nat → Nat → Int32 → Int32 → Int32 → Int32 → Int32 → Int32 → qP Unit
  | 0 => fun _ _ _ _ _ _ _ => qfail
  | N + 1 => fun x0 x1 x2 x3 x4 x5 x6 => UX12_reckons_23 (WX12_reckons_23 K88 N) K88 x0 x1 x2 x3 x4 x5 x6
theorem WX12_reckons_23_ok {l : Launch} {g : qG} {d n : Nat} {K88 : Nat → Int32 → Int32 → Int32 → Int32 → Int32 → qP Unit} (hK88 : ∀ (x0 : Nat) (x1 : Int32) (x2 : Int32) (x3 : Int32) (x4 : Int32) (x5 : Int32), qS l g mX12_reckons (d + 2) n 0 0 0 0 cvV 88 [(0, .ref x0), (1, .int x1), (2, .int x2), (3, .int x3), (4, .int x4), (5, .int x5)] [] (K88 x0 x1 x2 x3 x4 x5)) : ∀ (N : Nat) (x0 : Nat) (x1 : Int32) (x2 : Int32) (x3 : Int32) (x4 : Int32) (x5 : Int32) (x6 : Int32), qS l g mX12_reckons (d + 2) n 0 0 0 0 cvV 23 [(0, .ref x0), (1, .int x1), (2, .int x2), (3, .int x3), (4, .int x4), (5, .int x5), (6, .int x6)] [] (WX12_reckons_23 K88 N x0 x1 x2 x3 x4 x5 x6) := by
  intro N
  induction N with
  | zero => intro x0 x1 x2 x3 x4 x5 x6; exact s_fail
  | succ N ih => intro x0 x1 x2 x3 x4 x5 x6; exact UX12_reckons_23_ok ih hK88 x0 x1 x2 x3 x4 x5 x6
def UX12_reckons_130 (R : Nat → Int32 → Int32 → Int32 → Int32 → Int32 → Int32 → qP Unit) (K154 : Nat → Int32 → Int32 → Int32 → Int32 → Int32 → qP Unit) (x0 : Nat) (x1 : Int32) (x2 : Int32) (x3 : Int32) (x4 : Int32) (x5 : Int32) (x6 : Int32) (s0 : Int32) : qP Unit :=
if s0 ≤ x5 then (
R x0 x1 x2 x3 x4 x5 (x6 + 1)) else (
R x0 x1 x2 x3 x4 s0 (x6 + 1))
set_option maxRecDepth 100000 in
set_option maxHeartbeats 4000000 in
theorem UX12_reckons_130_ok {l : Launch} {g : qG} {d n : Nat} {R : Nat → Int32 → Int32 → Int32 → Int32 → Int32 → Int32 → qP Unit} (hR : ∀ (x0 : Nat) (x1 : Int32) (x2 : Int32) (x3 : Int32) (x4 : Int32) (x5 : Int32) (x6 : Int32), qS l g mX12_reckons (d + 2) n 0 0 0 0 cvV 91 [(0, .ref x0), (1, .int x1), (2, .int x2), (3, .int x3), (4, .int x4), (5, .int x5), (6, .int x6)] [] (R x0 x1 x2 x3 x4 x5 x6)) {K154 : Nat → Int32 → Int32 → Int32 → Int32 → Int32 → qP Unit} (hK154 : ∀ (x0 : Nat) (x1 : Int32) (x2 : Int32) (x3 : Int32) (x4 : Int32) (x5 : Int32), qS l g mX12_reckons (d + 2) n 0 0 0 0 cvV 154 [(0, .ref x0), (1, .int x1), (2, .int x2), (3, .int x3), (4, .int x4), (5, .int x5)] [] (K154 x0 x1 x2 x3 x4 x5)) (x0 : Nat) (x1 : Int32) (x2 : Int32) (x3 : Int32) (x4 : Int32) (x5 : Int32) (x6 : Int32) (s0 : Int32) : qS l g mX12_reckons (d + 2) n 0 0 0 0 cvV 130 [(0, .ref x0), (1, .int x1), (2, .int x2), (3, .int x3), (4, .int x4), (5, .int x5), (6, .int x6)] [.int s0] (UX12_reckons_130 R K154 x0 x1 x2 x3 x4 x5 x6 s0) := by
  unfold UX12_reckons_130
  refine s_istore (lv' := [(7, .int s0), (0, .ref x0), (1, .int x1), (2, .int x2), (3, .int x3), (4, .int x4), (5, .int x5), (6, .int x6)]) dX12_reckons_130 (by decide) rfl ?_
  refine s_iload dX12_reckons_132 rfl ?_
  refine s_iload dX12_reckons_134 rfl ?_
  refine s_icmp_le (tgt := 144) dX12_reckons_136 (by decide) (fun c1 => ?_) (fun c1 => ?_)
  · refine s_iload dX12_reckons_144 rfl ?_
    refine s_istore (lv' := [(5, .int x5), (7, .int s0), (0, .ref x0), (1, .int x1), (2, .int x2), (3, .int x3), (4, .int x4), (6, .int x6)]) dX12_reckons_146 (by decide) rfl ?_
    refine s_iinc (lv' := [(6, .int (x6 + 1)), (5, .int x5), (7, .int s0), (0, .ref x0), (1, .int x1), (2, .int x2), (3, .int x3), (4, .int x4)]) dX12_reckons_148 rfl (by decide) rfl ?_
    refine s_goto (tgt := 91) dX12_reckons_151 (by decide) ?_
    refine s_locals [3, 4, 5, 6, 7, 1, 0] rfl ?_
    exact hR x0 x1 x2 x3 x4 x5 (x6 + 1)
  · refine s_iload dX12_reckons_139 rfl ?_
    refine s_goto (tgt := 146) dX12_reckons_141 (by decide) ?_
    refine s_istore (lv' := [(5, .int s0), (7, .int s0), (0, .ref x0), (1, .int x1), (2, .int x2), (3, .int x3), (4, .int x4), (6, .int x6)]) dX12_reckons_146 (by decide) rfl ?_
    refine s_iinc (lv' := [(6, .int (x6 + 1)), (5, .int s0), (7, .int s0), (0, .ref x0), (1, .int x1), (2, .int x2), (3, .int x3), (4, .int x4)]) dX12_reckons_148 rfl (by decide) rfl ?_
    refine s_goto (tgt := 91) dX12_reckons_151 (by decide) ?_
    refine s_locals [3, 4, 5, 6, 7, 1, 0] rfl ?_
    exact hR x0 x1 x2 x3 x4 s0 (x6 + 1)
def UX12_reckons_91 (R : Nat → Int32 → Int32 → Int32 → Int32 → Int32 → Int32 → qP Unit) (K154 : Nat → Int32 → Int32 → Int32 → Int32 → Int32 → qP Unit) (x0 : Nat) (x1 : Int32) (x2 : Int32) (x3 : Int32) (x4 : Int32) (x5 : Int32) (x6 : Int32) : qP Unit :=
qb (gR 12 x0 0) fun v1 =>
qb (aI v1 (5 : Int32)) fun v2 =>
if v2 ≤ x6 then (
K154 x0 x1 x2 x3 x4 x5) else (
if ((x3 >>> (x6 &&& 31)) &&& (1 : Int32)) = 0 then (
qb (qcl 12 x0) fun _ => qb (FX12_behind x0 x2 (x3 ||| ((1 : Int32) <<< (x6 &&& 31))) (0 : Int32) x1) fun v3 =>
UX12_reckons_130 R K154 x0 x1 x2 x3 x4 x5 x6 ((1 : Int32) + v3)) else (
UX12_reckons_130 R K154 x0 x1 x2 x3 x4 x5 x6 (0 : Int32)))
set_option maxRecDepth 100000 in
set_option maxHeartbeats 4000000 in
theorem UX12_reckons_91_ok {l : Launch} {g : qG} {d n : Nat} {R : Nat → Int32 → Int32 → Int32 → Int32 → Int32 → Int32 → qP Unit} (hR : ∀ (x0 : Nat) (x1 : Int32) (x2 : Int32) (x3 : Int32) (x4 : Int32) (x5 : Int32) (x6 : Int32), qS l g mX12_reckons (d + 2) n 0 0 0 0 cvV 91 [(0, .ref x0), (1, .int x1), (2, .int x2), (3, .int x3), (4, .int x4), (5, .int x5), (6, .int x6)] [] (R x0 x1 x2 x3 x4 x5 x6)) {K154 : Nat → Int32 → Int32 → Int32 → Int32 → Int32 → qP Unit} (hK154 : ∀ (x0 : Nat) (x1 : Int32) (x2 : Int32) (x3 : Int32) (x4 : Int32) (x5 : Int32), qS l g mX12_reckons (d + 2) n 0 0 0 0 cvV 154 [(0, .ref x0), (1, .int x1), (2, .int x2), (3, .int x3), (4, .int x4), (5, .int x5)] [] (K154 x0 x1 x2 x3 x4 x5)) (x0 : Nat) (x1 : Int32) (x2 : Int32) (x3 : Int32) (x4 : Int32) (x5 : Int32) (x6 : Int32) : qS l g mX12_reckons (d + 2) n 0 0 0 0 cvV 91 [(0, .ref x0), (1, .int x1), (2, .int x2), (3, .int x3), (4, .int x4), (5, .int x5), (6, .int x6)] [] (UX12_reckons_91 R K154 x0 x1 x2 x3 x4 x5 x6) := by
  unfold UX12_reckons_91
  refine s_iload dX12_reckons_91 rfl ?_
  refine s_aload_n dX12_reckons_93 rfl ?_
  refine s_gR dX12_reckons_94 fX12_7 fun v1 => ?_
  refine s_iconst (v := 5) dX12_reckons_97 (by decide) ?_
  refine s_aI dX12_reckons_98 fun v2 => ?_
  refine s_icmp_ge (tgt := 154) dX12_reckons_99 (by decide) (fun c1 => ?_) (fun c1 => ?_)
  · refine s_locals [0, 1, 2, 3, 4, 5] rfl ?_
    exact hK154 x0 x1 x2 x3 x4 x5
  · refine s_iload_n dX12_reckons_102 rfl ?_
    refine s_iload dX12_reckons_103 rfl ?_
    refine s_ishr dX12_reckons_105 ?_
    refine s_iconst (v := 1) dX12_reckons_106 (by decide) ?_
    refine s_iand dX12_reckons_107 ?_
    refine s_if_ne (tgt := 129) dX12_reckons_108 (by decide) (fun c2 => ?_) (fun c2 => ?_)
    · refine s_iconst (v := 1) dX12_reckons_111 (by decide) ?_
      refine s_aload_n dX12_reckons_112 rfl ?_
      refine s_iload_n dX12_reckons_113 rfl ?_
      refine s_iload_n dX12_reckons_114 rfl ?_
      refine s_iconst (v := 1) dX12_reckons_115 (by decide) ?_
      refine s_iload dX12_reckons_116 rfl ?_
      refine s_ishl dX12_reckons_118 ?_
      refine s_ior dX12_reckons_119 ?_
      refine s_iconst (v := 0) dX12_reckons_120 (by decide) ?_
      refine s_iload_n dX12_reckons_121 rfl ?_
      refine s_virtI (as := [.int x2, .int (x3 ||| ((1 : Int32) <<< (x6 &&& 31))), .int (0 : Int32), .int x1]) (rest := [.int (1 : Int32)]) dX12_reckons_122 vX12_162 (CX12_behind _ _ _ _ _) (Nat.le_of_ble_eq_true rfl) ⟨Nat.le_refl _, Nat.le_refl _⟩ fun v3 => ?_
      refine s_iadd dX12_reckons_125 ?_
      refine s_goto (tgt := 130) dX12_reckons_126 (by decide) ?_
      exact UX12_reckons_130_ok hR hK154 x0 x1 x2 x3 x4 x5 x6 ((1 : Int32) + v3)
    · refine s_iconst (v := 0) dX12_reckons_129 (by decide) ?_
      exact UX12_reckons_130_ok hR hK154 x0 x1 x2 x3 x4 x5 x6 (0 : Int32)
def WX12_reckons_91 (K154 : Nat → Int32 → Int32 → Int32 → Int32 → Int32 → qP Unit) : Nat → Nat → Int32 → Int32 → Int32 → Int32 → Int32 → Int32 → qP Unit
  | 0 => fun _ _ _ _ _ _ _ => qfail
  | N + 1 => fun x0 x1 x2 x3 x4 x5 x6 => UX12_reckons_91 (WX12_reckons_91 K154 N) K154 x0 x1 x2 x3 x4 x5 x6
theorem WX12_reckons_91_ok {l : Launch} {g : qG} {d n : Nat} {K154 : Nat → Int32 → Int32 → Int32 → Int32 → Int32 → qP Unit} (hK154 : ∀ (x0 : Nat) (x1 : Int32) (x2 : Int32) (x3 : Int32) (x4 : Int32) (x5 : Int32), qS l g mX12_reckons (d + 2) n 0 0 0 0 cvV 154 [(0, .ref x0), (1, .int x1), (2, .int x2), (3, .int x3), (4, .int x4), (5, .int x5)] [] (K154 x0 x1 x2 x3 x4 x5)) : ∀ (N : Nat) (x0 : Nat) (x1 : Int32) (x2 : Int32) (x3 : Int32) (x4 : Int32) (x5 : Int32) (x6 : Int32), qS l g mX12_reckons (d + 2) n 0 0 0 0 cvV 91 [(0, .ref x0), (1, .int x1), (2, .int x2), (3, .int x3), (4, .int x4), (5, .int x5), (6, .int x6)] [] (WX12_reckons_91 K154 N x0 x1 x2 x3 x4 x5 x6) := by
  intro N
  induction N with
  | zero => intro x0 x1 x2 x3 x4 x5 x6; exact s_fail
  | succ N ih => intro x0 x1 x2 x3 x4 x5 x6; exact UX12_reckons_91_ok ih hK154 x0 x1 x2 x3 x4 x5 x6
def UX12_reckons_178 (R : Nat → Int32 → Int32 → Int32 → qP Unit) (K202 : Nat → Int32 → Int32 → qP Unit) (x0 : Nat) (x1 : Int32) (x2 : Int32) (x3 : Int32) (x5 : Int32) (s0 : Nat) (s1 : Int32) (s2 : Int32) : qP Unit :=
qb (sI s0 s1 s2) fun _ =>
qb (gR 12 x0 12) fun v1 =>
qb (sI v1 ((((32 : Int32) * x2) + ((2 : Int32) * x3)) + (1 : Int32)) x5) fun _ =>
R x0 x1 x2 (x3 + (-1))
set_option maxRecDepth 100000 in
set_option maxHeartbeats 4000000 in
theorem UX12_reckons_178_ok {l : Launch} {g : qG} {d n : Nat} {R : Nat → Int32 → Int32 → Int32 → qP Unit} (hR : ∀ (x0 : Nat) (x1 : Int32) (x2 : Int32) (x3 : Int32), qS l g mX12_reckons (d + 2) n 0 0 0 0 cvV 10 [(0, .ref x0), (1, .int x1), (2, .int x2), (3, .int x3)] [] (R x0 x1 x2 x3)) {K202 : Nat → Int32 → Int32 → qP Unit} (hK202 : ∀ (x0 : Nat) (x1 : Int32) (x2 : Int32), qS l g mX12_reckons (d + 2) n 0 0 0 0 cvV 202 [(0, .ref x0), (1, .int x1), (2, .int x2)] [] (K202 x0 x1 x2)) (x0 : Nat) (x1 : Int32) (x2 : Int32) (x3 : Int32) (x5 : Int32) (s0 : Nat) (s1 : Int32) (s2 : Int32) : qS l g mX12_reckons (d + 2) n 0 0 0 0 cvV 178 [(0, .ref x0), (1, .int x1), (2, .int x2), (3, .int x3), (5, .int x5)] [.int s2, .int s1, .ref s0] (UX12_reckons_178 R K202 x0 x1 x2 x3 x5 s0 s1 s2) := by
  unfold UX12_reckons_178
  refine s_sI dX12_reckons_178 ?_
  refine s_aload_n dX12_reckons_179 rfl ?_
  refine s_gR dX12_reckons_180 fX12_38 fun v1 => ?_
  refine s_bipush (v := 32) dX12_reckons_183 (by decide) ?_
  refine s_iload_n dX12_reckons_185 rfl ?_
  refine s_imul dX12_reckons_186 ?_
  refine s_iconst (v := 2) dX12_reckons_187 (by decide) ?_
  refine s_iload_n dX12_reckons_188 rfl ?_
  refine s_imul dX12_reckons_189 ?_
  refine s_iadd dX12_reckons_190 ?_
  refine s_iconst (v := 1) dX12_reckons_191 (by decide) ?_
  refine s_iadd dX12_reckons_192 ?_
  refine s_iload dX12_reckons_193 rfl ?_
  refine s_sI dX12_reckons_195 ?_
  refine s_iinc (lv' := [(3, .int (x3 + (-1))), (0, .ref x0), (1, .int x1), (2, .int x2), (5, .int x5)]) dX12_reckons_196 rfl (by decide) rfl ?_
  refine s_goto (tgt := 10) dX12_reckons_199 (by decide) ?_
  refine s_locals [1, 2, 3, 0] rfl ?_
  exact hR x0 x1 x2 (x3 + (-1))
def UX12_reckons_154 (R : Nat → Int32 → Int32 → Int32 → qP Unit) (K202 : Nat → Int32 → Int32 → qP Unit) (x0 : Nat) (x1 : Int32) (x2 : Int32) (x3 : Int32) (x4 : Int32) (x5 : Int32) : qP Unit :=
qb (gR 12 x0 12) fun v1 =>
if x4 = (-1 : Int32) then (
UX12_reckons_178 R K202 x0 x1 x2 x3 x5 v1 (((32 : Int32) * x2) + ((2 : Int32) * x3)) (0 : Int32)) else (
UX12_reckons_178 R K202 x0 x1 x2 x3 x5 v1 (((32 : Int32) * x2) + ((2 : Int32) * x3)) x4)
set_option maxRecDepth 100000 in
set_option maxHeartbeats 4000000 in
theorem UX12_reckons_154_ok {l : Launch} {g : qG} {d n : Nat} {R : Nat → Int32 → Int32 → Int32 → qP Unit} (hR : ∀ (x0 : Nat) (x1 : Int32) (x2 : Int32) (x3 : Int32), qS l g mX12_reckons (d + 2) n 0 0 0 0 cvV 10 [(0, .ref x0), (1, .int x1), (2, .int x2), (3, .int x3)] [] (R x0 x1 x2 x3)) {K202 : Nat → Int32 → Int32 → qP Unit} (hK202 : ∀ (x0 : Nat) (x1 : Int32) (x2 : Int32), qS l g mX12_reckons (d + 2) n 0 0 0 0 cvV 202 [(0, .ref x0), (1, .int x1), (2, .int x2)] [] (K202 x0 x1 x2)) (x0 : Nat) (x1 : Int32) (x2 : Int32) (x3 : Int32) (x4 : Int32) (x5 : Int32) : qS l g mX12_reckons (d + 2) n 0 0 0 0 cvV 154 [(0, .ref x0), (1, .int x1), (2, .int x2), (3, .int x3), (4, .int x4), (5, .int x5)] [] (UX12_reckons_154 R K202 x0 x1 x2 x3 x4 x5) := by
  unfold UX12_reckons_154
  refine s_aload_n dX12_reckons_154 rfl ?_
  refine s_gR dX12_reckons_155 fX12_38 fun v1 => ?_
  refine s_bipush (v := 32) dX12_reckons_158 (by decide) ?_
  refine s_iload_n dX12_reckons_160 rfl ?_
  refine s_imul dX12_reckons_161 ?_
  refine s_iconst (v := 2) dX12_reckons_162 (by decide) ?_
  refine s_iload_n dX12_reckons_163 rfl ?_
  refine s_imul dX12_reckons_164 ?_
  refine s_iadd dX12_reckons_165 ?_
  refine s_iload dX12_reckons_166 rfl ?_
  refine s_iconst (v := -1) dX12_reckons_168 (by decide) ?_
  refine s_icmp_ne (tgt := 176) dX12_reckons_169 (by decide) (fun c1 => ?_) (fun c1 => ?_)
  · refine s_iconst (v := 0) dX12_reckons_172 (by decide) ?_
    refine s_goto (tgt := 178) dX12_reckons_173 (by decide) ?_
    refine s_locals [0, 1, 2, 3, 5] rfl ?_
    exact UX12_reckons_178_ok hR hK202 x0 x1 x2 x3 x5 v1 (((32 : Int32) * x2) + ((2 : Int32) * x3)) (0 : Int32)
  · refine s_iload dX12_reckons_176 rfl ?_
    refine s_locals [0, 1, 2, 3, 5] rfl ?_
    exact UX12_reckons_178_ok hR hK202 x0 x1 x2 x3 x5 v1 (((32 : Int32) * x2) + ((2 : Int32) * x3)) x4
def UX12_reckons_88 (R : Nat → Int32 → Int32 → Int32 → qP Unit) (K202 : Nat → Int32 → Int32 → qP Unit) (x0 : Nat) (x1 : Int32) (x2 : Int32) (x3 : Int32) (x4 : Int32) (x5 : Int32) : qP Unit :=
WX12_reckons_91 (UX12_reckons_154 R K202) 1000000 x0 x1 x2 x3 x4 x5 (0 : Int32)
set_option maxRecDepth 100000 in
set_option maxHeartbeats 4000000 in
theorem UX12_reckons_88_ok {l : Launch} {g : qG} {d n : Nat} {R : Nat → Int32 → Int32 → Int32 → qP Unit} (hR : ∀ (x0 : Nat) (x1 : Int32) (x2 : Int32) (x3 : Int32), qS l g mX12_reckons (d + 2) n 0 0 0 0 cvV 10 [(0, .ref x0), (1, .int x1), (2, .int x2), (3, .int x3)] [] (R x0 x1 x2 x3)) {K202 : Nat → Int32 → Int32 → qP Unit} (hK202 : ∀ (x0 : Nat) (x1 : Int32) (x2 : Int32), qS l g mX12_reckons (d + 2) n 0 0 0 0 cvV 202 [(0, .ref x0), (1, .int x1), (2, .int x2)] [] (K202 x0 x1 x2)) (x0 : Nat) (x1 : Int32) (x2 : Int32) (x3 : Int32) (x4 : Int32) (x5 : Int32) : qS l g mX12_reckons (d + 2) n 0 0 0 0 cvV 88 [(0, .ref x0), (1, .int x1), (2, .int x2), (3, .int x3), (4, .int x4), (5, .int x5)] [] (UX12_reckons_88 R K202 x0 x1 x2 x3 x4 x5) := by
  unfold UX12_reckons_88
  refine s_iconst (v := 0) dX12_reckons_88 (by decide) ?_
  refine s_istore (lv' := [(6, .int (0 : Int32)), (0, .ref x0), (1, .int x1), (2, .int x2), (3, .int x3), (4, .int x4), (5, .int x5)]) dX12_reckons_89 (by decide) rfl ?_
  refine s_locals [1, 2, 3, 4, 5, 6, 0] rfl ?_
  exact WX12_reckons_91_ok (UX12_reckons_154_ok hR hK202) 1000000 x0 x1 x2 x3 x4 x5 (0 : Int32)
def UX12_reckons_10 (R : Nat → Int32 → Int32 → Int32 → qP Unit) (K202 : Nat → Int32 → Int32 → qP Unit) (x0 : Nat) (x1 : Int32) (x2 : Int32) (x3 : Int32) : qP Unit :=
if x3 < 0 then (
K202 x0 x1 x2) else (
WX12_reckons_23 (UX12_reckons_88 R K202) 1000000 x0 x1 x2 x3 (-1 : Int32) (0 : Int32) (0 : Int32))
set_option maxRecDepth 100000 in
set_option maxHeartbeats 4000000 in
theorem UX12_reckons_10_ok {l : Launch} {g : qG} {d n : Nat} {R : Nat → Int32 → Int32 → Int32 → qP Unit} (hR : ∀ (x0 : Nat) (x1 : Int32) (x2 : Int32) (x3 : Int32), qS l g mX12_reckons (d + 2) n 0 0 0 0 cvV 10 [(0, .ref x0), (1, .int x1), (2, .int x2), (3, .int x3)] [] (R x0 x1 x2 x3)) {K202 : Nat → Int32 → Int32 → qP Unit} (hK202 : ∀ (x0 : Nat) (x1 : Int32) (x2 : Int32), qS l g mX12_reckons (d + 2) n 0 0 0 0 cvV 202 [(0, .ref x0), (1, .int x1), (2, .int x2)] [] (K202 x0 x1 x2)) (x0 : Nat) (x1 : Int32) (x2 : Int32) (x3 : Int32) : qS l g mX12_reckons (d + 2) n 0 0 0 0 cvV 10 [(0, .ref x0), (1, .int x1), (2, .int x2), (3, .int x3)] [] (UX12_reckons_10 R K202 x0 x1 x2 x3) := by
  unfold UX12_reckons_10
  refine s_iload_n dX12_reckons_10 rfl ?_
  refine s_if_lt (tgt := 202) dX12_reckons_11 (by decide) (fun c1 => ?_) (fun c1 => ?_)
  · refine s_locals [0, 1, 2] rfl ?_
    exact hK202 x0 x1 x2
  · refine s_iconst (v := -1) dX12_reckons_14 (by decide) ?_
    refine s_istore (lv' := [(4, .int (-1 : Int32)), (0, .ref x0), (1, .int x1), (2, .int x2), (3, .int x3)]) dX12_reckons_15 (by decide) rfl ?_
    refine s_iconst (v := 0) dX12_reckons_17 (by decide) ?_
    refine s_istore (lv' := [(5, .int (0 : Int32)), (4, .int (-1 : Int32)), (0, .ref x0), (1, .int x1), (2, .int x2), (3, .int x3)]) dX12_reckons_18 (by decide) rfl ?_
    refine s_iconst (v := 0) dX12_reckons_20 (by decide) ?_
    refine s_istore (lv' := [(6, .int (0 : Int32)), (5, .int (0 : Int32)), (4, .int (-1 : Int32)), (0, .ref x0), (1, .int x1), (2, .int x2), (3, .int x3)]) dX12_reckons_21 (by decide) rfl ?_
    refine s_locals [3, 4, 5, 6, 2, 1, 0] rfl ?_
    exact WX12_reckons_23_ok (UX12_reckons_88_ok hR hK202) 1000000 x0 x1 x2 x3 (-1 : Int32) (0 : Int32) (0 : Int32)
def WX12_reckons_10 (K202 : Nat → Int32 → Int32 → qP Unit) : Nat → Nat → Int32 → Int32 → Int32 → qP Unit
  | 0 => fun _ _ _ _ => qfail
  | N + 1 => fun x0 x1 x2 x3 => UX12_reckons_10 (WX12_reckons_10 K202 N) K202 x0 x1 x2 x3
theorem WX12_reckons_10_ok {l : Launch} {g : qG} {d n : Nat} {K202 : Nat → Int32 → Int32 → qP Unit} (hK202 : ∀ (x0 : Nat) (x1 : Int32) (x2 : Int32), qS l g mX12_reckons (d + 2) n 0 0 0 0 cvV 202 [(0, .ref x0), (1, .int x1), (2, .int x2)] [] (K202 x0 x1 x2)) : ∀ (N : Nat) (x0 : Nat) (x1 : Int32) (x2 : Int32) (x3 : Int32), qS l g mX12_reckons (d + 2) n 0 0 0 0 cvV 10 [(0, .ref x0), (1, .int x1), (2, .int x2), (3, .int x3)] [] (WX12_reckons_10 K202 N x0 x1 x2 x3) := by
  intro N
  induction N with
  | zero => intro x0 x1 x2 x3; exact s_fail
  | succ N ih => intro x0 x1 x2 x3; exact UX12_reckons_10_ok ih hK202 x0 x1 x2 x3
def UX12_reckons_202 (R : Nat → Int32 → Int32 → qP Unit) (x0 : Nat) (x1 : Int32) (x2 : Int32) : qP Unit :=
R x0 x1 (x2 + (-1))
set_option maxRecDepth 100000 in
set_option maxHeartbeats 4000000 in
theorem UX12_reckons_202_ok {l : Launch} {g : qG} {d n : Nat} {R : Nat → Int32 → Int32 → qP Unit} (hR : ∀ (x0 : Nat) (x1 : Int32) (x2 : Int32), qS l g mX12_reckons (d + 2) n 0 0 0 0 cvV 3 [(0, .ref x0), (1, .int x1), (2, .int x2)] [] (R x0 x1 x2)) (x0 : Nat) (x1 : Int32) (x2 : Int32) : qS l g mX12_reckons (d + 2) n 0 0 0 0 cvV 202 [(0, .ref x0), (1, .int x1), (2, .int x2)] [] (UX12_reckons_202 R x0 x1 x2) := by
  unfold UX12_reckons_202
  refine s_iinc (lv' := [(2, .int (x2 + (-1))), (0, .ref x0), (1, .int x1)]) dX12_reckons_202 rfl (by decide) rfl ?_
  refine s_goto (tgt := 3) dX12_reckons_205 (by decide) ?_
  refine s_locals [1, 2, 0] rfl ?_
  exact hR x0 x1 (x2 + (-1))
def UX12_reckons_3 (R : Nat → Int32 → Int32 → qP Unit) (x0 : Nat) (x1 : Int32) (x2 : Int32) : qP Unit :=
if x2 < 0 then (
qr ()) else (
WX12_reckons_10 (UX12_reckons_202 R) 1000000 x0 x1 x2 (15 : Int32))
set_option maxRecDepth 100000 in
set_option maxHeartbeats 4000000 in
theorem UX12_reckons_3_ok {l : Launch} {g : qG} {d n : Nat} {R : Nat → Int32 → Int32 → qP Unit} (hR : ∀ (x0 : Nat) (x1 : Int32) (x2 : Int32), qS l g mX12_reckons (d + 2) n 0 0 0 0 cvV 3 [(0, .ref x0), (1, .int x1), (2, .int x2)] [] (R x0 x1 x2)) (x0 : Nat) (x1 : Int32) (x2 : Int32) : qS l g mX12_reckons (d + 2) n 0 0 0 0 cvV 3 [(0, .ref x0), (1, .int x1), (2, .int x2)] [] (UX12_reckons_3 R x0 x1 x2) := by
  unfold UX12_reckons_3
  refine s_iload_n dX12_reckons_3 rfl ?_
  refine s_if_lt (tgt := 208) dX12_reckons_4 (by decide) (fun c1 => ?_) (fun c1 => ?_)
  · exact s_return dX12_reckons_208 rfl
  · refine s_bipush (v := 15) dX12_reckons_7 (by decide) ?_
    refine s_istore_n (lv' := [(3, .int (15 : Int32)), (0, .ref x0), (1, .int x1), (2, .int x2)]) dX12_reckons_9 (by decide) rfl ?_
    refine s_locals [1, 2, 3, 0] rfl ?_
    exact WX12_reckons_10_ok (UX12_reckons_202_ok hR) 1000000 x0 x1 x2 (15 : Int32)
def WX12_reckons_3 : Nat → Nat → Int32 → Int32 → qP Unit
  | 0 => fun _ _ _ => qfail
  | N + 1 => fun x0 x1 x2 => UX12_reckons_3 (WX12_reckons_3  N)  x0 x1 x2
theorem WX12_reckons_3_ok {l : Launch} {g : qG} {d n : Nat} : ∀ (N : Nat) (x0 : Nat) (x1 : Int32) (x2 : Int32), qS l g mX12_reckons (d + 2) n 0 0 0 0 cvV 3 [(0, .ref x0), (1, .int x1), (2, .int x2)] [] (WX12_reckons_3  N x0 x1 x2) := by
  intro N
  induction N with
  | zero => intro x0 x1 x2; exact s_fail
  | succ N ih => intro x0 x1 x2; exact UX12_reckons_3_ok ih  x0 x1 x2
def FX12_reckons (x0 : Nat) (x1 : Int32) : qP Unit :=
WX12_reckons_3 1000000 x0 x1 (15 : Int32)
set_option maxRecDepth 100000 in
set_option maxHeartbeats 4000000 in
theorem FX12_reckons_ok {l : Launch} {g : qG} {d n : Nat} (x0 : Nat) (x1 : Int32) : qS l g mX12_reckons (d + 2) n 0 0 0 0 cvV 0 [(0, .ref x0), (1, .int x1)] [] (FX12_reckons x0 x1) := by
  unfold FX12_reckons
  refine s_bipush (v := 15) dX12_reckons_0 (by decide) ?_
  refine s_istore_n (lv' := [(2, .int (15 : Int32)), (0, .ref x0), (1, .int x1)]) dX12_reckons_2 (by decide) rfl ?_
  refine s_locals [1, 2, 0] rfl ?_
  exact WX12_reckons_3_ok  1000000 x0 x1 (15 : Int32)
theorem CX12_reckons {l : Launch} {g : qG} {d : Nat} (x0 : Nat) (x1 : Int32) : qCt l g mX12_reckons (d + 2) 0 0 cvV [.ref x0, .int x1] (FX12_reckons x0 x1) := s_of pn_X12 (Nat.le_of_ble_eq_true rfl) fun n => FX12_reckons_ok x0 x1
def UX12_lasts_22 (x0 : Nat) : qP Int32 :=
qb (qcl 12 x0) fun _ => qb (FX12_bad x0) fun v1 =>
qr v1
set_option maxRecDepth 100000 in
set_option maxHeartbeats 4000000 in
theorem UX12_lasts_22_ok {l : Launch} {g : qG} {d n : Nat} (x0 : Nat) : qS l g mX12_lasts (d + 3) n 0 0 0 0 cvI 22 [(0, .ref x0)] [] (UX12_lasts_22 x0) := by
  unfold UX12_lasts_22
  refine s_aload_n dX12_lasts_22 rfl ?_
  refine s_virtI (as := []) (rest := []) dX12_lasts_23 vX12_74 (CX12_bad _) (Nat.le_of_ble_eq_true rfl) ⟨Nat.le_refl _, Nat.le_refl _⟩ fun v1 => ?_
  exact s_ireturn dX12_lasts_26 rfl rfl
def UX12_lasts_44 (R : Nat → Int32 → Int32 → Int32 → Int32 → qP Int32) (K84 : Nat → Int32 → Int32 → qP Int32) (x0 : Nat) (x1 : Int32) (x2 : Int32) (x3 : Int32) (x4 : Int32) : qP Int32 :=
if x4 < 0 then (
K84 x0 x2 x3) else (
qb (qcl 12 x0) fun _ => qb (FX12_behind x0 ((1 : Int32) <<< (x4 &&& 31)) (0 : Int32) (1 : Int32) x1) fun v1 =>
qb (gR 12 x0 12) fun v2 =>
qb (aI v2 (0 : Int32)) fun v3 =>
if ((1 : Int32) + v1) = v3 then (
R x0 x1 x2 x4 (x4 + (-1))) else (
R x0 x1 x2 x3 (x4 + (-1))))
set_option maxRecDepth 100000 in
set_option maxHeartbeats 4000000 in
theorem UX12_lasts_44_ok {l : Launch} {g : qG} {d n : Nat} {R : Nat → Int32 → Int32 → Int32 → Int32 → qP Int32} (hR : ∀ (x0 : Nat) (x1 : Int32) (x2 : Int32) (x3 : Int32) (x4 : Int32), qS l g mX12_lasts (d + 3) n 0 0 0 0 cvI 44 [(0, .ref x0), (1, .int x1), (2, .int x2), (3, .int x3), (4, .int x4)] [] (R x0 x1 x2 x3 x4)) {K84 : Nat → Int32 → Int32 → qP Int32} (hK84 : ∀ (x0 : Nat) (x2 : Int32) (x3 : Int32), qS l g mX12_lasts (d + 3) n 0 0 0 0 cvI 84 [(0, .ref x0), (2, .int x2), (3, .int x3)] [] (K84 x0 x2 x3)) (x0 : Nat) (x1 : Int32) (x2 : Int32) (x3 : Int32) (x4 : Int32) : qS l g mX12_lasts (d + 3) n 0 0 0 0 cvI 44 [(0, .ref x0), (1, .int x1), (2, .int x2), (3, .int x3), (4, .int x4)] [] (UX12_lasts_44 R K84 x0 x1 x2 x3 x4) := by
  unfold UX12_lasts_44
  refine s_iload dX12_lasts_44 rfl ?_
  refine s_if_lt (tgt := 84) dX12_lasts_46 (by decide) (fun c1 => ?_) (fun c1 => ?_)
  · refine s_locals [0, 2, 3] rfl ?_
    exact hK84 x0 x2 x3
  · refine s_iconst (v := 1) dX12_lasts_49 (by decide) ?_
    refine s_aload_n dX12_lasts_50 rfl ?_
    refine s_iconst (v := 1) dX12_lasts_51 (by decide) ?_
    refine s_iload dX12_lasts_52 rfl ?_
    refine s_ishl dX12_lasts_54 ?_
    refine s_iconst (v := 0) dX12_lasts_55 (by decide) ?_
    refine s_iconst (v := 1) dX12_lasts_56 (by decide) ?_
    refine s_iload_n dX12_lasts_57 rfl ?_
    refine s_virtI (as := [.int ((1 : Int32) <<< (x4 &&& 31)), .int (0 : Int32), .int (1 : Int32), .int x1]) (rest := [.int (1 : Int32)]) dX12_lasts_58 vX12_162 (CX12_behind _ _ _ _ _) (Nat.le_of_ble_eq_true rfl) ⟨Nat.le_refl _, Nat.le_refl _⟩ fun v1 => ?_
    refine s_iadd dX12_lasts_61 ?_
    refine s_aload_n dX12_lasts_62 rfl ?_
    refine s_gR dX12_lasts_63 fX12_38 fun v2 => ?_
    refine s_iconst (v := 0) dX12_lasts_66 (by decide) ?_
    refine s_aI dX12_lasts_67 fun v3 => ?_
    refine s_icmp_ne (tgt := 76) dX12_lasts_68 (by decide) (fun c2 => ?_) (fun c2 => ?_)
    · refine s_iload dX12_lasts_71 rfl ?_
      refine s_goto (tgt := 77) dX12_lasts_73 (by decide) ?_
      refine s_istore_n (lv' := [(3, .int x4), (0, .ref x0), (1, .int x1), (2, .int x2), (4, .int x4)]) dX12_lasts_77 (by decide) rfl ?_
      refine s_iinc (lv' := [(4, .int (x4 + (-1))), (3, .int x4), (0, .ref x0), (1, .int x1), (2, .int x2)]) dX12_lasts_78 rfl (by decide) rfl ?_
      refine s_goto (tgt := 44) dX12_lasts_81 (by decide) ?_
      refine s_locals [2, 3, 4, 1, 0] rfl ?_
      exact hR x0 x1 x2 x4 (x4 + (-1))
    · refine s_iload_n dX12_lasts_76 rfl ?_
      refine s_istore_n (lv' := [(3, .int x3), (0, .ref x0), (1, .int x1), (2, .int x2), (4, .int x4)]) dX12_lasts_77 (by decide) rfl ?_
      refine s_iinc (lv' := [(4, .int (x4 + (-1))), (3, .int x3), (0, .ref x0), (1, .int x1), (2, .int x2)]) dX12_lasts_78 rfl (by decide) rfl ?_
      refine s_goto (tgt := 44) dX12_lasts_81 (by decide) ?_
      refine s_locals [2, 3, 4, 1, 0] rfl ?_
      exact hR x0 x1 x2 x3 (x4 + (-1))
def WX12_lasts_44 (K84 : Nat → Int32 → Int32 → qP Int32) : Nat → Nat → Int32 → Int32 → Int32 → Int32 → qP Int32
  | 0 => fun _ _ _ _ _ => qfail
  | N + 1 => fun x0 x1 x2 x3 x4 => UX12_lasts_44 (WX12_lasts_44 K84 N) K84 x0 x1 x2 x3 x4
theorem WX12_lasts_44_ok {l : Launch} {g : qG} {d n : Nat} {K84 : Nat → Int32 → Int32 → qP Int32} (hK84 : ∀ (x0 : Nat) (x2 : Int32) (x3 : Int32), qS l g mX12_lasts (d + 3) n 0 0 0 0 cvI 84 [(0, .ref x0), (2, .int x2), (3, .int x3)] [] (K84 x0 x2 x3)) : ∀ (N : Nat) (x0 : Nat) (x1 : Int32) (x2 : Int32) (x3 : Int32) (x4 : Int32), qS l g mX12_lasts (d + 3) n 0 0 0 0 cvI 44 [(0, .ref x0), (1, .int x1), (2, .int x2), (3, .int x3), (4, .int x4)] [] (WX12_lasts_44 K84 N x0 x1 x2 x3 x4) := by
  intro N
  induction N with
  | zero => intro x0 x1 x2 x3 x4; exact s_fail
  | succ N ih => intro x0 x1 x2 x3 x4; exact UX12_lasts_44_ok ih hK84 x0 x1 x2 x3 x4
def UX12_lasts_84 (x0 : Nat) (x2 : Int32) (x3 : Int32) : qP Int32 :=
if x2 = 0 then (
qb (gR 12 x0 12) fun v1 =>
qb (aI v1 (0 : Int32)) fun v2 =>
qr v2) else (
qr x3)
set_option maxRecDepth 100000 in
set_option maxHeartbeats 4000000 in
theorem UX12_lasts_84_ok {l : Launch} {g : qG} {d n : Nat} (x0 : Nat) (x2 : Int32) (x3 : Int32) : qS l g mX12_lasts (d + 3) n 0 0 0 0 cvI 84 [(0, .ref x0), (2, .int x2), (3, .int x3)] [] (UX12_lasts_84 x0 x2 x3) := by
  unfold UX12_lasts_84
  refine s_iload_n dX12_lasts_84 rfl ?_
  refine s_if_ne (tgt := 97) dX12_lasts_85 (by decide) (fun c1 => ?_) (fun c1 => ?_)
  · refine s_aload_n dX12_lasts_88 rfl ?_
    refine s_gR dX12_lasts_89 fX12_38 fun v1 => ?_
    refine s_iconst (v := 0) dX12_lasts_92 (by decide) ?_
    refine s_aI dX12_lasts_93 fun v2 => ?_
    refine s_goto (tgt := 98) dX12_lasts_94 (by decide) ?_
    exact s_ireturn dX12_lasts_98 rfl rfl
  · refine s_iload_n dX12_lasts_97 rfl ?_
    exact s_ireturn dX12_lasts_98 rfl rfl
def FX12_lasts (x0 : Nat) (x1 : Int32) (x2 : Int32) : qP Int32 :=
qb (FX12_in (x1).toInt64 (1 : Int64) (20 : Int64)) fun v1 =>
if v1 = 0 then (
UX12_lasts_22 x0) else (
qb (FX12_in (x2).toInt64 (0 : Int64) (1 : Int64)) fun v2 =>
if v2 = 0 then (
UX12_lasts_22 x0) else (
qb (qcl 12 x0) fun _ => qb (FX12_reckons x0 x1) fun v3 =>
qb (gR 12 x0 0) fun v4 =>
qb (aI v4 (4 : Int32)) fun v5 =>
WX12_lasts_44 (UX12_lasts_84) 1000000 x0 x1 x2 (-1 : Int32) (v5 - (1 : Int32))))
set_option maxRecDepth 100000 in
set_option maxHeartbeats 4000000 in
theorem FX12_lasts_ok {l : Launch} {g : qG} {d n : Nat} (x0 : Nat) (x1 : Int32) (x2 : Int32) : qS l g mX12_lasts (d + 3) n 0 0 0 0 cvI 0 [(0, .ref x0), (1, .int x1), (2, .int x2)] [] (FX12_lasts x0 x1 x2) := by
  unfold FX12_lasts
  refine s_iload_n dX12_lasts_0 rfl ?_
  refine s_i2l dX12_lasts_1 ?_
  refine s_lconst (v := 1) dX12_lasts_2 (by decide) ?_
  refine s_ldc2 dX12_lasts_3 lX12_72 ?_
  refine s_staticI (as := [.long (x1).toInt64, .long (1 : Int64), .long (20 : Int64)]) (rest := []) dX12_lasts_6 sX12_59 (CX12_in _ _ _) (Nat.le_of_ble_eq_true rfl) ⟨Nat.le_refl _, Nat.le_refl _⟩ fun v1 => ?_
  refine s_if_eq (tgt := 22) dX12_lasts_9 (by decide) (fun c1 => ?_) (fun c1 => ?_)
  · refine s_locals [0] rfl ?_
    exact UX12_lasts_22_ok x0
  · refine s_iload_n dX12_lasts_12 rfl ?_
    refine s_i2l dX12_lasts_13 ?_
    refine s_lconst (v := 0) dX12_lasts_14 (by decide) ?_
    refine s_lconst (v := 1) dX12_lasts_15 (by decide) ?_
    refine s_staticI (as := [.long (x2).toInt64, .long (0 : Int64), .long (1 : Int64)]) (rest := []) dX12_lasts_16 sX12_59 (CX12_in _ _ _) (Nat.le_of_ble_eq_true rfl) ⟨Nat.le_refl _, Nat.le_refl _⟩ fun v2 => ?_
    refine s_if_ne (tgt := 27) dX12_lasts_19 (by decide) (fun c2 => ?_) (fun c2 => ?_)
    · refine s_locals [0] rfl ?_
      exact UX12_lasts_22_ok x0
    · refine s_aload_n dX12_lasts_27 rfl ?_
      refine s_iload_n dX12_lasts_28 rfl ?_
      refine s_virtV (as := [.int x1]) (rest := []) dX12_lasts_29 vX12_166 (CX12_reckons _ _) (Nat.le_of_ble_eq_true rfl) ⟨Nat.le_refl _, Nat.le_refl _⟩ fun v3 => ?_
      refine s_iconst (v := -1) dX12_lasts_32 (by decide) ?_
      refine s_istore_n (lv' := [(3, .int (-1 : Int32)), (0, .ref x0), (1, .int x1), (2, .int x2)]) dX12_lasts_33 (by decide) rfl ?_
      refine s_aload_n dX12_lasts_34 rfl ?_
      refine s_gR dX12_lasts_35 fX12_7 fun v4 => ?_
      refine s_iconst (v := 4) dX12_lasts_38 (by decide) ?_
      refine s_aI dX12_lasts_39 fun v5 => ?_
      refine s_iconst (v := 1) dX12_lasts_40 (by decide) ?_
      refine s_isub dX12_lasts_41 ?_
      refine s_istore (lv' := [(4, .int (v5 - (1 : Int32))), (3, .int (-1 : Int32)), (0, .ref x0), (1, .int x1), (2, .int x2)]) dX12_lasts_42 (by decide) rfl ?_
      refine s_locals [2, 3, 4, 1, 0] rfl ?_
      exact WX12_lasts_44_ok (UX12_lasts_84_ok) 1000000 x0 x1 x2 (-1 : Int32) (v5 - (1 : Int32))
theorem CX12_lasts {l : Launch} {g : qG} {d : Nat} (x0 : Nat) (x1 : Int32) (x2 : Int32) : qCt l g mX12_lasts (d + 3) 0 0 cvI [.ref x0, .int x1, .int x2] (FX12_lasts x0 x1 x2) := s_of pn_X12 (Nat.le_of_ble_eq_true rfl) fun n => FX12_lasts_ok x0 x1 x2
def UX12_type_39 (R : Nat → Int64 → Int32 → qP Int32) (x0 : Nat) (x1 : Int64) (x4 : Int32) : qP Int32 :=
if x4 < 0 then (
qb (gI 12 x0 14) fun v1 =>
qr v1) else (
qb (gR 12 x0 13) fun v2 =>
qb (gI 12 x0 14) fun v3 =>
qb (sI v2 v3 (((x1 >>> (((8 : Int32) * x4).toInt64 &&& 63)) &&& (255 : Int64))).toInt32) fun _ =>
qb (gI 12 x0 14) fun v4 =>
qb (pV 12 x0 14 (.int (v4 + (1 : Int32)))) fun _ =>
R x0 x1 (x4 + (-1)))
set_option maxRecDepth 100000 in
set_option maxHeartbeats 4000000 in
theorem UX12_type_39_ok {l : Launch} {g : qG} {d n : Nat} {R : Nat → Int64 → Int32 → qP Int32} (hR : ∀ (x0 : Nat) (x1 : Int64) (x4 : Int32), qS l g mX12_type (d + 2) n 0 0 0 0 cvI 39 [(0, .ref x0), (1, .long x1), (4, .int x4)] [] (R x0 x1 x4)) (x0 : Nat) (x1 : Int64) (x4 : Int32) : qS l g mX12_type (d + 2) n 0 0 0 0 cvI 39 [(0, .ref x0), (1, .long x1), (4, .int x4)] [] (UX12_type_39 R x0 x1 x4) := by
  unfold UX12_type_39
  refine s_iload dX12_type_39 rfl ?_
  refine s_if_lt (tgt := 81) dX12_type_41 (by decide) (fun c1 => ?_) (fun c1 => ?_)
  · refine s_aload_n dX12_type_81 rfl ?_
    refine s_gI dX12_type_82 fX12_172 fun v1 => ?_
    exact s_ireturn dX12_type_85 rfl rfl
  · refine s_aload_n dX12_type_44 rfl ?_
    refine s_gR dX12_type_45 fX12_41 fun v2 => ?_
    refine s_aload_n dX12_type_48 rfl ?_
    refine s_gI dX12_type_49 fX12_172 fun v3 => ?_
    refine s_lload_n dX12_type_52 rfl ?_
    refine s_bipush (v := 8) dX12_type_53 (by decide) ?_
    refine s_iload dX12_type_55 rfl ?_
    refine s_imul dX12_type_57 ?_
    refine s_lshr dX12_type_58 ?_
    refine s_ldc2 dX12_type_59 lX12_176 ?_
    refine s_land dX12_type_62 ?_
    refine s_l2i dX12_type_63 ?_
    refine s_sI dX12_type_64 ?_
    refine s_aload_n dX12_type_65 rfl ?_
    refine s_dup dX12_type_66 rfl ?_
    refine s_gI dX12_type_67 fX12_172 fun v4 => ?_
    refine s_iconst (v := 1) dX12_type_70 (by decide) ?_
    refine s_iadd dX12_type_71 ?_
    refine s_put dX12_type_72 fX12_172 rfl rfl ?_
    refine s_iinc (lv' := [(4, .int (x4 + (-1))), (0, .ref x0), (1, .long x1)]) dX12_type_75 rfl (by decide) rfl ?_
    refine s_goto (tgt := 39) dX12_type_78 (by decide) ?_
    refine s_locals [1, 2, 0] rfl ?_
    exact hR x0 x1 (x4 + (-1))
def WX12_type_39 : Nat → Nat → Int64 → Int32 → qP Int32
  | 0 => fun _ _ _ => qfail
  | N + 1 => fun x0 x1 x4 => UX12_type_39 (WX12_type_39  N)  x0 x1 x4
theorem WX12_type_39_ok {l : Launch} {g : qG} {d n : Nat} : ∀ (N : Nat) (x0 : Nat) (x1 : Int64) (x4 : Int32), qS l g mX12_type (d + 2) n 0 0 0 0 cvI 39 [(0, .ref x0), (1, .long x1), (4, .int x4)] [] (WX12_type_39  N x0 x1 x4) := by
  intro N
  induction N with
  | zero => intro x0 x1 x4; exact s_fail
  | succ N ih => intro x0 x1 x4; exact UX12_type_39_ok ih  x0 x1 x4
def FX12_type (x0 : Nat) (x1 : Int64) (x3 : Int32) : qP Int32 :=
qb (FX12_in (x3).toInt64 (1 : Int64) (8 : Int64)) fun v1 =>
if v1 = 0 then (
qb (qcl 12 x0) fun _ => qb (FX12_bad x0) fun v2 =>
qr v2) else (
qb (gI 12 x0 14) fun v3 =>
if (v3 + x3) ≤ (200 : Int32) then (
WX12_type_39 1000000 x0 x1 (x3 - (1 : Int32))) else (
qb (qcl 12 x0) fun _ => qb (FX12_full x0) fun v4 =>
qr v4))
set_option maxRecDepth 100000 in
set_option maxHeartbeats 4000000 in
theorem FX12_type_ok {l : Launch} {g : qG} {d n : Nat} (x0 : Nat) (x1 : Int64) (x3 : Int32) : qS l g mX12_type (d + 2) n 0 0 0 0 cvI 0 [(0, .ref x0), (1, .long x1), (3, .int x3)] [] (FX12_type x0 x1 x3) := by
  unfold FX12_type
  refine s_iload_n dX12_type_0 rfl ?_
  refine s_i2l dX12_type_1 ?_
  refine s_lconst (v := 1) dX12_type_2 (by decide) ?_
  refine s_ldc2 dX12_type_3 lX12_170 ?_
  refine s_staticI (as := [.long (x3).toInt64, .long (1 : Int64), .long (8 : Int64)]) (rest := []) dX12_type_6 sX12_59 (CX12_in _ _ _) (Nat.le_of_ble_eq_true rfl) ⟨Nat.le_refl _, Nat.le_refl _⟩ fun v1 => ?_
  refine s_if_ne (tgt := 17) dX12_type_9 (by decide) (fun c1 => ?_) (fun c1 => ?_)
  · refine s_aload_n dX12_type_12 rfl ?_
    refine s_virtI (as := []) (rest := []) dX12_type_13 vX12_74 (CX12_bad _) (Nat.le_of_ble_eq_true rfl) ⟨Nat.le_refl _, Nat.le_refl _⟩ fun v2 => ?_
    exact s_ireturn dX12_type_16 rfl rfl
  · refine s_aload_n dX12_type_17 rfl ?_
    refine s_gI dX12_type_18 fX12_172 fun v3 => ?_
    refine s_iload_n dX12_type_21 rfl ?_
    refine s_iadd dX12_type_22 ?_
    refine s_sipush (v := 200) dX12_type_23 (by decide) ?_
    refine s_icmp_le (tgt := 34) dX12_type_26 (by decide) (fun c2 => ?_) (fun c2 => ?_)
    · refine s_iload_n dX12_type_34 rfl ?_
      refine s_iconst (v := 1) dX12_type_35 (by decide) ?_
      refine s_isub dX12_type_36 ?_
      refine s_istore (lv' := [(4, .int (x3 - (1 : Int32))), (0, .ref x0), (1, .long x1), (3, .int x3)]) dX12_type_37 (by decide) rfl ?_
      refine s_locals [1, 2, 0] rfl ?_
      exact WX12_type_39_ok  1000000 x0 x1 (x3 - (1 : Int32))
    · refine s_aload_n dX12_type_29 rfl ?_
      refine s_virtI (as := []) (rest := []) dX12_type_30 vX12_78 (CX12_full _) (Nat.le_of_ble_eq_true rfl) ⟨Nat.le_refl _, Nat.le_refl _⟩ fun v4 => ?_
      exact s_ireturn dX12_type_33 rfl rfl
theorem CX12_type {l : Launch} {g : qG} {d : Nat} (x0 : Nat) (x1 : Int64) (x3 : Int32) : qCt l g mX12_type (d + 2) 0 0 cvI [.ref x0, .long x1, .int x3] (FX12_type x0 x1 x3) := s_of pn_X12 (Nat.le_of_ble_eq_true rfl) fun n => FX12_type_ok x0 x1 x3
def FX12_clear (x0 : Nat) : qP Int32 :=
qb (gI 12 x0 14) fun v1 =>
qb (pV 12 x0 14 (.int (0 : Int32))) fun _ =>
qr v1
set_option maxRecDepth 100000 in
set_option maxHeartbeats 4000000 in
theorem FX12_clear_ok {l : Launch} {g : qG} {d n : Nat} (x0 : Nat) : qS l g mX12_clear d n 0 0 0 0 cvI 0 [(0, .ref x0)] [] (FX12_clear x0) := by
  unfold FX12_clear
  refine s_aload_n dX12_clear_0 rfl ?_
  refine s_gI dX12_clear_1 fX12_172 fun v1 => ?_
  refine s_istore_n (lv' := [(1, .int v1), (0, .ref x0)]) dX12_clear_4 (by decide) rfl ?_
  refine s_aload_n dX12_clear_5 rfl ?_
  refine s_iconst (v := 0) dX12_clear_6 (by decide) ?_
  refine s_put dX12_clear_7 fX12_172 rfl rfl ?_
  refine s_iload_n dX12_clear_10 rfl ?_
  exact s_ireturn dX12_clear_11 rfl rfl
theorem CX12_clear {l : Launch} {g : qG} {d : Nat} (x0 : Nat) : qCt l g mX12_clear d 0 0 cvI [.ref x0] (FX12_clear x0) := s_of pn_X12 (Nat.le_of_ble_eq_true rfl) fun n => FX12_clear_ok x0
def FX12_isAt (x0 : Nat) (x1 : Int32) (x2 : Int32) : qP Int32 :=
qb (gI 12 x0 15) fun v1 =>
qb (gI 12 x0 14) fun v2 =>
if v2 ≤ v1 then (
qr (0 : Int32)) else (
qb (gR 12 x0 13) fun v3 =>
qb (gI 12 x0 15) fun v4 =>
qb (aI v3 v4) fun v5 =>
qb (FX12_in (v5).toInt64 (x1).toInt64 (x2).toInt64) fun v6 =>
if v6 = 0 then (
qr (0 : Int32)) else (
qr (1 : Int32)))
set_option maxRecDepth 100000 in
set_option maxHeartbeats 4000000 in
theorem FX12_isAt_ok {l : Launch} {g : qG} {d n : Nat} (x0 : Nat) (x1 : Int32) (x2 : Int32) : qS l g mX12_isAt (d + 1) n 0 0 0 0 cvI 0 [(0, .ref x0), (1, .int x1), (2, .int x2)] [] (FX12_isAt x0 x1 x2) := by
  unfold FX12_isAt
  refine s_aload_n dX12_isAt_0 rfl ?_
  refine s_gI dX12_isAt_1 fX12_178 fun v1 => ?_
  refine s_aload_n dX12_isAt_4 rfl ?_
  refine s_gI dX12_isAt_5 fX12_172 fun v2 => ?_
  refine s_icmp_ge (tgt := 35) dX12_isAt_8 (by decide) (fun c1 => ?_) (fun c1 => ?_)
  · refine s_iconst (v := 0) dX12_isAt_35 (by decide) ?_
    exact s_ireturn dX12_isAt_36 rfl (by decide)
  · refine s_aload_n dX12_isAt_11 rfl ?_
    refine s_gR dX12_isAt_12 fX12_41 fun v3 => ?_
    refine s_aload_n dX12_isAt_15 rfl ?_
    refine s_gI dX12_isAt_16 fX12_178 fun v4 => ?_
    refine s_aI dX12_isAt_19 fun v5 => ?_
    refine s_i2l dX12_isAt_20 ?_
    refine s_iload_n dX12_isAt_21 rfl ?_
    refine s_i2l dX12_isAt_22 ?_
    refine s_iload_n dX12_isAt_23 rfl ?_
    refine s_i2l dX12_isAt_24 ?_
    refine s_staticI (as := [.long (v5).toInt64, .long (x1).toInt64, .long (x2).toInt64]) (rest := []) dX12_isAt_25 sX12_59 (CX12_in _ _ _) (Nat.le_of_ble_eq_true rfl) ⟨Nat.le_refl _, Nat.le_refl _⟩ fun v6 => ?_
    refine s_if_eq (tgt := 35) dX12_isAt_28 (by decide) (fun c2 => ?_) (fun c2 => ?_)
    · refine s_iconst (v := 0) dX12_isAt_35 (by decide) ?_
      exact s_ireturn dX12_isAt_36 rfl (by decide)
    · refine s_iconst (v := 1) dX12_isAt_31 (by decide) ?_
      refine s_goto (tgt := 36) dX12_isAt_32 (by decide) ?_
      exact s_ireturn dX12_isAt_36 rfl (by decide)
theorem CX12_isAt {l : Launch} {g : qG} {d : Nat} (x0 : Nat) (x1 : Int32) (x2 : Int32) : qCt l g mX12_isAt (d + 1) 0 0 cvI [.ref x0, .int x1, .int x2] (FX12_isAt x0 x1 x2) := s_of pn_X12 (Nat.le_of_ble_eq_true rfl) fun n => FX12_isAt_ok x0 x1 x2
def FX12_isSign (x0 : Nat) : qP Int32 :=
qb (qcl 12 x0) fun _ => qb (FX12_isAt x0 (97 : Int32) (122 : Int32)) fun v1 =>
if v1 = 0 then (
qb (qcl 12 x0) fun _ => qb (FX12_isAt x0 (46 : Int32) (46 : Int32)) fun v2 =>
if v2 = 0 then (
qb (qcl 12 x0) fun _ => qb (FX12_isAt x0 (43 : Int32) (43 : Int32)) fun v3 =>
if v3 = 0 then (
qr (0 : Int32)) else (
qr (1 : Int32))) else (
qr (1 : Int32))) else (
qr (1 : Int32))
set_option maxRecDepth 100000 in
set_option maxHeartbeats 4000000 in
theorem FX12_isSign_ok {l : Launch} {g : qG} {d n : Nat} (x0 : Nat) : qS l g mX12_isSign (d + 2) n 0 0 0 0 cvI 0 [(0, .ref x0)] [] (FX12_isSign x0) := by
  unfold FX12_isSign
  refine s_aload_n dX12_isSign_0 rfl ?_
  refine s_bipush (v := 97) dX12_isSign_1 (by decide) ?_
  refine s_bipush (v := 122) dX12_isSign_3 (by decide) ?_
  refine s_virtI (as := [.int (97 : Int32), .int (122 : Int32)]) (rest := []) dX12_isSign_5 vX12_181 (CX12_isAt _ _ _) (Nat.le_of_ble_eq_true rfl) ⟨Nat.le_refl _, Nat.le_refl _⟩ fun v1 => ?_
  refine s_if_ne (tgt := 33) dX12_isSign_8 (by decide) (fun c1 => ?_) (fun c1 => ?_)
  · refine s_aload_n dX12_isSign_11 rfl ?_
    refine s_bipush (v := 46) dX12_isSign_12 (by decide) ?_
    refine s_bipush (v := 46) dX12_isSign_14 (by decide) ?_
    refine s_virtI (as := [.int (46 : Int32), .int (46 : Int32)]) (rest := []) dX12_isSign_16 vX12_181 (CX12_isAt _ _ _) (Nat.le_of_ble_eq_true rfl) ⟨Nat.le_refl _, Nat.le_refl _⟩ fun v2 => ?_
    refine s_if_ne (tgt := 33) dX12_isSign_19 (by decide) (fun c2 => ?_) (fun c2 => ?_)
    · refine s_aload_n dX12_isSign_22 rfl ?_
      refine s_bipush (v := 43) dX12_isSign_23 (by decide) ?_
      refine s_bipush (v := 43) dX12_isSign_25 (by decide) ?_
      refine s_virtI (as := [.int (43 : Int32), .int (43 : Int32)]) (rest := []) dX12_isSign_27 vX12_181 (CX12_isAt _ _ _) (Nat.le_of_ble_eq_true rfl) ⟨Nat.le_refl _, Nat.le_refl _⟩ fun v3 => ?_
      refine s_if_eq (tgt := 37) dX12_isSign_30 (by decide) (fun c3 => ?_) (fun c3 => ?_)
      · refine s_iconst (v := 0) dX12_isSign_37 (by decide) ?_
        exact s_ireturn dX12_isSign_38 rfl (by decide)
      · refine s_iconst (v := 1) dX12_isSign_33 (by decide) ?_
        refine s_goto (tgt := 38) dX12_isSign_34 (by decide) ?_
        exact s_ireturn dX12_isSign_38 rfl (by decide)
    · refine s_iconst (v := 1) dX12_isSign_33 (by decide) ?_
      refine s_goto (tgt := 38) dX12_isSign_34 (by decide) ?_
      exact s_ireturn dX12_isSign_38 rfl (by decide)
  · refine s_iconst (v := 1) dX12_isSign_33 (by decide) ?_
    refine s_goto (tgt := 38) dX12_isSign_34 (by decide) ?_
    exact s_ireturn dX12_isSign_38 rfl (by decide)
theorem CX12_isSign {l : Launch} {g : qG} {d : Nat} (x0 : Nat) : qCt l g mX12_isSign (d + 2) 0 0 cvI [.ref x0] (FX12_isSign x0) := s_of pn_X12 (Nat.le_of_ble_eq_true rfl) fun n => FX12_isSign_ok x0
def UX12_scans_0 (R : Nat → qP Unit) (K24 : Nat → qP Unit) (x0 : Nat) : qP Unit :=
qb (qcl 12 x0) fun _ => qb (FX12_isAt x0 (32 : Int32) (32 : Int32)) fun v1 =>
if v1 = 0 then (
K24 x0) else (
qb (gI 12 x0 15) fun v2 =>
qb (pV 12 x0 15 (.int (v2 + (1 : Int32)))) fun _ =>
R x0)
set_option maxRecDepth 100000 in
set_option maxHeartbeats 4000000 in
theorem UX12_scans_0_ok {l : Launch} {g : qG} {d n : Nat} {R : Nat → qP Unit} (hR : ∀ (x0 : Nat), qS l g mX12_scans (d + 3) n 0 0 0 0 cvV 0 [(0, .ref x0)] [] (R x0)) {K24 : Nat → qP Unit} (hK24 : ∀ (x0 : Nat), qS l g mX12_scans (d + 3) n 0 0 0 0 cvV 24 [(0, .ref x0)] [] (K24 x0)) (x0 : Nat) : qS l g mX12_scans (d + 3) n 0 0 0 0 cvV 0 [(0, .ref x0)] [] (UX12_scans_0 R K24 x0) := by
  unfold UX12_scans_0
  refine s_aload_n dX12_scans_0 rfl ?_
  refine s_bipush (v := 32) dX12_scans_1 (by decide) ?_
  refine s_bipush (v := 32) dX12_scans_3 (by decide) ?_
  refine s_virtI (as := [.int (32 : Int32), .int (32 : Int32)]) (rest := []) dX12_scans_5 vX12_181 (CX12_isAt _ _ _) (Nat.le_of_ble_eq_true rfl) ⟨Nat.le_refl _, Nat.le_refl _⟩ fun v1 => ?_
  refine s_if_eq (tgt := 24) dX12_scans_8 (by decide) (fun c1 => ?_) (fun c1 => ?_)
  · exact hK24 x0
  · refine s_aload_n dX12_scans_11 rfl ?_
    refine s_dup dX12_scans_12 rfl ?_
    refine s_gI dX12_scans_13 fX12_178 fun v2 => ?_
    refine s_iconst (v := 1) dX12_scans_16 (by decide) ?_
    refine s_iadd dX12_scans_17 ?_
    refine s_put dX12_scans_18 fX12_178 rfl rfl ?_
    refine s_goto (tgt := 0) dX12_scans_21 (by decide) ?_
    exact hR x0
def WX12_scans_0 (K24 : Nat → qP Unit) : Nat → Nat → qP Unit
  | 0 => fun _ => qfail
  | N + 1 => fun x0 => UX12_scans_0 (WX12_scans_0 K24 N) K24 x0
theorem WX12_scans_0_ok {l : Launch} {g : qG} {d n : Nat} {K24 : Nat → qP Unit} (hK24 : ∀ (x0 : Nat), qS l g mX12_scans (d + 3) n 0 0 0 0 cvV 24 [(0, .ref x0)] [] (K24 x0)) : ∀ (N : Nat) (x0 : Nat), qS l g mX12_scans (d + 3) n 0 0 0 0 cvV 0 [(0, .ref x0)] [] (WX12_scans_0 K24 N x0) := by
  intro N
  induction N with
  | zero => intro x0; exact s_fail
  | succ N ih => intro x0; exact UX12_scans_0_ok ih hK24 x0
def UX12_scans_298 (x0 : Nat) (s0 : Nat) (s1 : Int32) : qP Unit :=
qb (pV 12 s0 17 (.int s1)) fun _ =>
qb (gI 12 x0 15) fun v1 =>
qb (pV 12 x0 15 (.int (v1 + (1 : Int32)))) fun _ =>
qr ()
set_option maxRecDepth 100000 in
set_option maxHeartbeats 4000000 in
theorem UX12_scans_298_ok {l : Launch} {g : qG} {d n : Nat} (x0 : Nat) (s0 : Nat) (s1 : Int32) : qS l g mX12_scans (d + 3) n 0 0 0 0 cvV 298 [(0, .ref x0)] [.int s1, .ref s0] (UX12_scans_298 x0 s0 s1) := by
  unfold UX12_scans_298
  refine s_put dX12_scans_298 fX12_188 rfl rfl ?_
  refine s_aload_n dX12_scans_301 rfl ?_
  refine s_dup dX12_scans_302 rfl ?_
  refine s_gI dX12_scans_303 fX12_178 fun v1 => ?_
  refine s_iconst (v := 1) dX12_scans_306 (by decide) ?_
  refine s_iadd dX12_scans_307 ?_
  refine s_put dX12_scans_308 fX12_178 rfl rfl ?_
  exact s_return dX12_scans_311 rfl
def UX12_scans_242 (R : Nat → qP Unit) (K258 : Nat → qP Unit) (x0 : Nat) (s0 : Nat) (s1 : Int32) : qP Unit :=
qb (pV 12 s0 18 (.int s1)) fun _ =>
qb (gI 12 x0 15) fun v1 =>
qb (pV 12 x0 15 (.int (v1 + (1 : Int32)))) fun _ =>
R x0
set_option maxRecDepth 100000 in
set_option maxHeartbeats 4000000 in
theorem UX12_scans_242_ok {l : Launch} {g : qG} {d n : Nat} {R : Nat → qP Unit} (hR : ∀ (x0 : Nat), qS l g mX12_scans (d + 3) n 0 0 0 0 cvV 190 [(0, .ref x0)] [] (R x0)) {K258 : Nat → qP Unit} (hK258 : ∀ (x0 : Nat), qS l g mX12_scans (d + 3) n 0 0 0 0 cvV 258 [(0, .ref x0)] [] (K258 x0)) (x0 : Nat) (s0 : Nat) (s1 : Int32) : qS l g mX12_scans (d + 3) n 0 0 0 0 cvV 242 [(0, .ref x0)] [.int s1, .ref s0] (UX12_scans_242 R K258 x0 s0 s1) := by
  unfold UX12_scans_242
  refine s_put dX12_scans_242 fX12_207 rfl rfl ?_
  refine s_aload_n dX12_scans_245 rfl ?_
  refine s_dup dX12_scans_246 rfl ?_
  refine s_gI dX12_scans_247 fX12_178 fun v1 => ?_
  refine s_iconst (v := 1) dX12_scans_250 (by decide) ?_
  refine s_iadd dX12_scans_251 ?_
  refine s_put dX12_scans_252 fX12_178 rfl rfl ?_
  refine s_goto (tgt := 190) dX12_scans_255 (by decide) ?_
  exact hR x0
def UX12_scans_190 (R : Nat → qP Unit) (K258 : Nat → qP Unit) (x0 : Nat) : qP Unit :=
qb (qcl 12 x0) fun _ => qb (FX12_isAt x0 (48 : Int32) (57 : Int32)) fun v1 =>
if v1 = 0 then (
K258 x0) else (
qb (gI 12 x0 15) fun v2 =>
qb (gI 12 x0 16) fun v3 =>
if (2 : Int32) ≤ (v2 - v3) then (
qb (gI 12 x0 18) fun v4 =>
UX12_scans_242 R K258 x0 x0 v4) else (
qb (gI 12 x0 18) fun v5 =>
qb (gR 12 x0 13) fun v6 =>
qb (gI 12 x0 15) fun v7 =>
qb (aI v6 v7) fun v8 =>
UX12_scans_242 R K258 x0 x0 ((((10 : Int32) * v5) + v8) - (48 : Int32))))
set_option maxRecDepth 100000 in
set_option maxHeartbeats 4000000 in
theorem UX12_scans_190_ok {l : Launch} {g : qG} {d n : Nat} {R : Nat → qP Unit} (hR : ∀ (x0 : Nat), qS l g mX12_scans (d + 3) n 0 0 0 0 cvV 190 [(0, .ref x0)] [] (R x0)) {K258 : Nat → qP Unit} (hK258 : ∀ (x0 : Nat), qS l g mX12_scans (d + 3) n 0 0 0 0 cvV 258 [(0, .ref x0)] [] (K258 x0)) (x0 : Nat) : qS l g mX12_scans (d + 3) n 0 0 0 0 cvV 190 [(0, .ref x0)] [] (UX12_scans_190 R K258 x0) := by
  unfold UX12_scans_190
  refine s_aload_n dX12_scans_190 rfl ?_
  refine s_bipush (v := 48) dX12_scans_191 (by decide) ?_
  refine s_bipush (v := 57) dX12_scans_193 (by decide) ?_
  refine s_virtI (as := [.int (48 : Int32), .int (57 : Int32)]) (rest := []) dX12_scans_195 vX12_181 (CX12_isAt _ _ _) (Nat.le_of_ble_eq_true rfl) ⟨Nat.le_refl _, Nat.le_refl _⟩ fun v1 => ?_
  refine s_if_eq (tgt := 258) dX12_scans_198 (by decide) (fun c1 => ?_) (fun c1 => ?_)
  · exact hK258 x0
  · refine s_aload_n dX12_scans_201 rfl ?_
    refine s_aload_n dX12_scans_202 rfl ?_
    refine s_gI dX12_scans_203 fX12_178 fun v2 => ?_
    refine s_aload_n dX12_scans_206 rfl ?_
    refine s_gI dX12_scans_207 fX12_185 fun v3 => ?_
    refine s_isub dX12_scans_210 ?_
    refine s_iconst (v := 2) dX12_scans_211 (by decide) ?_
    refine s_icmp_ge (tgt := 238) dX12_scans_212 (by decide) (fun c2 => ?_) (fun c2 => ?_)
    · refine s_aload_n dX12_scans_238 rfl ?_
      refine s_gI dX12_scans_239 fX12_207 fun v4 => ?_
      exact UX12_scans_242_ok hR hK258 x0 x0 v4
    · refine s_bipush (v := 10) dX12_scans_215 (by decide) ?_
      refine s_aload_n dX12_scans_217 rfl ?_
      refine s_gI dX12_scans_218 fX12_207 fun v5 => ?_
      refine s_imul dX12_scans_221 ?_
      refine s_aload_n dX12_scans_222 rfl ?_
      refine s_gR dX12_scans_223 fX12_41 fun v6 => ?_
      refine s_aload_n dX12_scans_226 rfl ?_
      refine s_gI dX12_scans_227 fX12_178 fun v7 => ?_
      refine s_aI dX12_scans_230 fun v8 => ?_
      refine s_iadd dX12_scans_231 ?_
      refine s_bipush (v := 48) dX12_scans_232 (by decide) ?_
      refine s_isub dX12_scans_234 ?_
      refine s_goto (tgt := 242) dX12_scans_235 (by decide) ?_
      exact UX12_scans_242_ok hR hK258 x0 x0 ((((10 : Int32) * v5) + v8) - (48 : Int32))
def WX12_scans_190 (K258 : Nat → qP Unit) : Nat → Nat → qP Unit
  | 0 => fun _ => qfail
  | N + 1 => fun x0 => UX12_scans_190 (WX12_scans_190 K258 N) K258 x0
theorem WX12_scans_190_ok {l : Launch} {g : qG} {d n : Nat} {K258 : Nat → qP Unit} (hK258 : ∀ (x0 : Nat), qS l g mX12_scans (d + 3) n 0 0 0 0 cvV 258 [(0, .ref x0)] [] (K258 x0)) : ∀ (N : Nat) (x0 : Nat), qS l g mX12_scans (d + 3) n 0 0 0 0 cvV 190 [(0, .ref x0)] [] (WX12_scans_190 K258 N x0) := by
  intro N
  induction N with
  | zero => intro x0; exact s_fail
  | succ N ih => intro x0; exact UX12_scans_190_ok ih hK258 x0
def UX12_scans_152 (R : Nat → qP Unit) (x0 : Nat) (s0 : Nat) (s1 : Int64) : qP Unit :=
qb (pV 12 s0 19 (.long s1)) fun _ =>
qb (gI 12 x0 15) fun v1 =>
qb (pV 12 x0 15 (.int (v1 + (1 : Int32)))) fun _ =>
R x0
set_option maxRecDepth 100000 in
set_option maxHeartbeats 4000000 in
theorem UX12_scans_152_ok {l : Launch} {g : qG} {d n : Nat} {R : Nat → qP Unit} (hR : ∀ (x0 : Nat), qS l g mX12_scans (d + 3) n 0 0 0 0 cvV 66 [(0, .ref x0)] [] (R x0)) (x0 : Nat) (s0 : Nat) (s1 : Int64) : qS l g mX12_scans (d + 3) n 0 0 0 0 cvV 152 [(0, .ref x0)] [.long s1, .ref s0] (UX12_scans_152 R x0 s0 s1) := by
  unfold UX12_scans_152
  refine s_put dX12_scans_152 fX12_195 rfl rfl ?_
  refine s_aload_n dX12_scans_155 rfl ?_
  refine s_dup dX12_scans_156 rfl ?_
  refine s_gI dX12_scans_157 fX12_178 fun v1 => ?_
  refine s_iconst (v := 1) dX12_scans_160 (by decide) ?_
  refine s_iadd dX12_scans_161 ?_
  refine s_put dX12_scans_162 fX12_178 rfl rfl ?_
  refine s_goto (tgt := 66) dX12_scans_165 (by decide) ?_
  exact hR x0
def UX12_scans_97 (R : Nat → qP Unit) (x0 : Nat) (s0 : Nat) (s1 : Int32) : qP Unit :=
qgd (s1 = 0 ∨ s1 = 1) (qb (pV 12 s0 20 (.int s1)) fun _ =>
qb (gI 12 x0 15) fun v1 =>
qb (gI 12 x0 16) fun v2 =>
if (5 : Int32) < (v1 - v2) then (
UX12_scans_152 R x0 x0 (-1 : Int64)) else (
qb (gI 12 x0 20) fun v3 =>
if v3 = 0 then (
UX12_scans_152 R x0 x0 (-1 : Int64)) else (
qb (gL 12 x0 19) fun v4 =>
qb (gR 12 x0 13) fun v5 =>
qb (gI 12 x0 15) fun v6 =>
qb (aI v5 v6) fun v7 =>
UX12_scans_152 R x0 x0 (((((32 : Int64) * v4) + (v7).toInt64) - (97 : Int64)) + (1 : Int64)))))
set_option maxRecDepth 100000 in
set_option maxHeartbeats 4000000 in
theorem UX12_scans_97_ok {l : Launch} {g : qG} {d n : Nat} {R : Nat → qP Unit} (hR : ∀ (x0 : Nat), qS l g mX12_scans (d + 3) n 0 0 0 0 cvV 66 [(0, .ref x0)] [] (R x0)) (x0 : Nat) (s0 : Nat) (s1 : Int32) : qS l g mX12_scans (d + 3) n 0 0 0 0 cvV 97 [(0, .ref x0)] [.int s1, .ref s0] (UX12_scans_97 R x0 s0 s1) := by
  unfold UX12_scans_97
  refine s_putZ dX12_scans_97 fX12_198 ?_
  refine s_aload_n dX12_scans_100 rfl ?_
  refine s_aload_n dX12_scans_101 rfl ?_
  refine s_gI dX12_scans_102 fX12_178 fun v1 => ?_
  refine s_aload_n dX12_scans_105 rfl ?_
  refine s_gI dX12_scans_106 fX12_185 fun v2 => ?_
  refine s_isub dX12_scans_109 ?_
  refine s_iconst (v := 5) dX12_scans_110 (by decide) ?_
  refine s_icmp_gt (tgt := 121) dX12_scans_111 (by decide) (fun c1 => ?_) (fun c1 => ?_)
  · refine s_ldc2 dX12_scans_121 lX12_201 ?_
    refine s_goto (tgt := 152) dX12_scans_124 (by decide) ?_
    exact UX12_scans_152_ok hR x0 x0 (-1 : Int64)
  · refine s_aload_n dX12_scans_114 rfl ?_
    refine s_gI dX12_scans_115 fX12_198 fun v3 => ?_
    refine s_if_ne (tgt := 127) dX12_scans_118 (by decide) (fun c2 => ?_) (fun c2 => ?_)
    · refine s_ldc2 dX12_scans_121 lX12_201 ?_
      refine s_goto (tgt := 152) dX12_scans_124 (by decide) ?_
      exact UX12_scans_152_ok hR x0 x0 (-1 : Int64)
    · refine s_ldc2 dX12_scans_127 lX12_203 ?_
      refine s_aload_n dX12_scans_130 rfl ?_
      refine s_gL dX12_scans_131 fX12_195 fun v4 => ?_
      refine s_lmul dX12_scans_134 ?_
      refine s_aload_n dX12_scans_135 rfl ?_
      refine s_gR dX12_scans_136 fX12_41 fun v5 => ?_
      refine s_aload_n dX12_scans_139 rfl ?_
      refine s_gI dX12_scans_140 fX12_178 fun v6 => ?_
      refine s_aI dX12_scans_143 fun v7 => ?_
      refine s_i2l dX12_scans_144 ?_
      refine s_ladd dX12_scans_145 ?_
      refine s_ldc2 dX12_scans_146 lX12_205 ?_
      refine s_lsub dX12_scans_149 ?_
      refine s_lconst (v := 1) dX12_scans_150 (by decide) ?_
      refine s_ladd dX12_scans_151 ?_
      exact UX12_scans_152_ok hR x0 x0 (((((32 : Int64) * v4) + (v7).toInt64) - (97 : Int64)) + (1 : Int64))
def UX12_scans_66 (R : Nat → qP Unit) (x0 : Nat) : qP Unit :=
qb (qcl 12 x0) fun _ => qb (FX12_isSign x0) fun v1 =>
if v1 = 0 then (
qb (pV 12 x0 17 (.int (4 : Int32))) fun _ =>
qr ()) else (
qb (gI 12 x0 20) fun v2 =>
if v2 = 0 then (
UX12_scans_97 R x0 x0 (0 : Int32)) else (
qb (qcl 12 x0) fun _ => qb (FX12_isAt x0 (97 : Int32) (122 : Int32)) fun v3 =>
if v3 = 0 then (
UX12_scans_97 R x0 x0 (0 : Int32)) else (
UX12_scans_97 R x0 x0 (1 : Int32))))
set_option maxRecDepth 100000 in
set_option maxHeartbeats 4000000 in
theorem UX12_scans_66_ok {l : Launch} {g : qG} {d n : Nat} {R : Nat → qP Unit} (hR : ∀ (x0 : Nat), qS l g mX12_scans (d + 3) n 0 0 0 0 cvV 66 [(0, .ref x0)] [] (R x0)) (x0 : Nat) : qS l g mX12_scans (d + 3) n 0 0 0 0 cvV 66 [(0, .ref x0)] [] (UX12_scans_66 R x0) := by
  unfold UX12_scans_66
  refine s_aload_n dX12_scans_66 rfl ?_
  refine s_virtI (as := []) (rest := []) dX12_scans_67 vX12_191 (CX12_isSign _) (Nat.le_of_ble_eq_true rfl) ⟨Nat.le_refl _, Nat.le_refl _⟩ fun v1 => ?_
  refine s_if_eq (tgt := 168) dX12_scans_70 (by decide) (fun c1 => ?_) (fun c1 => ?_)
  · refine s_aload_n dX12_scans_168 rfl ?_
    refine s_iconst (v := 4) dX12_scans_169 (by decide) ?_
    refine s_put dX12_scans_170 fX12_188 rfl rfl ?_
    exact s_return dX12_scans_173 rfl
  · refine s_aload_n dX12_scans_73 rfl ?_
    refine s_aload_n dX12_scans_74 rfl ?_
    refine s_gI dX12_scans_75 fX12_198 fun v2 => ?_
    refine s_if_eq (tgt := 96) dX12_scans_78 (by decide) (fun c2 => ?_) (fun c2 => ?_)
    · refine s_iconst (v := 0) dX12_scans_96 (by decide) ?_
      exact UX12_scans_97_ok hR x0 x0 (0 : Int32)
    · refine s_aload_n dX12_scans_81 rfl ?_
      refine s_bipush (v := 97) dX12_scans_82 (by decide) ?_
      refine s_bipush (v := 122) dX12_scans_84 (by decide) ?_
      refine s_virtI (as := [.int (97 : Int32), .int (122 : Int32)]) (rest := [.ref x0]) dX12_scans_86 vX12_181 (CX12_isAt _ _ _) (Nat.le_of_ble_eq_true rfl) ⟨Nat.le_refl _, Nat.le_refl _⟩ fun v3 => ?_
      refine s_if_eq (tgt := 96) dX12_scans_89 (by decide) (fun c3 => ?_) (fun c3 => ?_)
      · refine s_iconst (v := 0) dX12_scans_96 (by decide) ?_
        exact UX12_scans_97_ok hR x0 x0 (0 : Int32)
      · refine s_iconst (v := 1) dX12_scans_92 (by decide) ?_
        refine s_goto (tgt := 97) dX12_scans_93 (by decide) ?_
        exact UX12_scans_97_ok hR x0 x0 (1 : Int32)
def WX12_scans_66 : Nat → Nat → qP Unit
  | 0 => fun _ => qfail
  | N + 1 => fun x0 => UX12_scans_66 (WX12_scans_66  N)  x0
theorem WX12_scans_66_ok {l : Launch} {g : qG} {d n : Nat} : ∀ (N : Nat) (x0 : Nat), qS l g mX12_scans (d + 3) n 0 0 0 0 cvV 66 [(0, .ref x0)] [] (WX12_scans_66  N x0) := by
  intro N
  induction N with
  | zero => intro x0; exact s_fail
  | succ N ih => intro x0; exact UX12_scans_66_ok ih  x0
def UX12_scans_258 (x0 : Nat) : qP Unit :=
qb (gI 12 x0 15) fun v1 =>
qb (gI 12 x0 16) fun v2 =>
if (v1 - v2) ≤ (2 : Int32) then (
qb (pV 12 x0 17 (.int (2 : Int32))) fun _ =>
qr ()) else (
qb (pV 12 x0 17 (.int (1 : Int32))) fun _ =>
qr ())
set_option maxRecDepth 100000 in
set_option maxHeartbeats 4000000 in
theorem UX12_scans_258_ok {l : Launch} {g : qG} {d n : Nat} (x0 : Nat) : qS l g mX12_scans (d + 3) n 0 0 0 0 cvV 258 [(0, .ref x0)] [] (UX12_scans_258 x0) := by
  unfold UX12_scans_258
  refine s_aload_n dX12_scans_258 rfl ?_
  refine s_aload_n dX12_scans_259 rfl ?_
  refine s_gI dX12_scans_260 fX12_178 fun v1 => ?_
  refine s_aload_n dX12_scans_263 rfl ?_
  refine s_gI dX12_scans_264 fX12_185 fun v2 => ?_
  refine s_isub dX12_scans_267 ?_
  refine s_iconst (v := 2) dX12_scans_268 (by decide) ?_
  refine s_icmp_le (tgt := 276) dX12_scans_269 (by decide) (fun c1 => ?_) (fun c1 => ?_)
  · refine s_iconst (v := 2) dX12_scans_276 (by decide) ?_
    refine s_put dX12_scans_277 fX12_188 rfl rfl ?_
    exact s_return dX12_scans_280 rfl
  · refine s_iconst (v := 1) dX12_scans_272 (by decide) ?_
    refine s_goto (tgt := 277) dX12_scans_273 (by decide) ?_
    refine s_put dX12_scans_277 fX12_188 rfl rfl ?_
    exact s_return dX12_scans_280 rfl
def UX12_scans_24 (x0 : Nat) : qP Unit :=
qb (gI 12 x0 15) fun v1 =>
qb (pV 12 x0 16 (.int v1)) fun _ =>
qb (gI 12 x0 15) fun v2 =>
qb (gI 12 x0 14) fun v3 =>
if v2 = v3 then (
qb (pV 12 x0 17 (.int (0 : Int32))) fun _ =>
qr ()) else (
qb (qcl 12 x0) fun _ => qb (FX12_isSign x0) fun v4 =>
if v4 = 0 then (
qb (qcl 12 x0) fun _ => qb (FX12_isAt x0 (48 : Int32) (57 : Int32)) fun v5 =>
if v5 = 0 then (
qb (qcl 12 x0) fun _ => qb (FX12_isAt x0 (59 : Int32) (59 : Int32)) fun v6 =>
if v6 = 0 then (
UX12_scans_298 x0 x0 (1 : Int32)) else (
UX12_scans_298 x0 x0 (3 : Int32))) else (
qb (pV 12 x0 18 (.int (0 : Int32))) fun _ =>
WX12_scans_190 (UX12_scans_258) 1000000 x0)) else (
qb (pV 12 x0 19 (.long (0 : Int64))) fun _ =>
qb (pV 12 x0 20 (.int (1 : Int32))) fun _ =>
WX12_scans_66 1000000 x0))
set_option maxRecDepth 100000 in
set_option maxHeartbeats 4000000 in
theorem UX12_scans_24_ok {l : Launch} {g : qG} {d n : Nat} (x0 : Nat) : qS l g mX12_scans (d + 3) n 0 0 0 0 cvV 24 [(0, .ref x0)] [] (UX12_scans_24 x0) := by
  unfold UX12_scans_24
  refine s_aload_n dX12_scans_24 rfl ?_
  refine s_aload_n dX12_scans_25 rfl ?_
  refine s_gI dX12_scans_26 fX12_178 fun v1 => ?_
  refine s_put dX12_scans_29 fX12_185 rfl rfl ?_
  refine s_aload_n dX12_scans_32 rfl ?_
  refine s_gI dX12_scans_33 fX12_178 fun v2 => ?_
  refine s_aload_n dX12_scans_36 rfl ?_
  refine s_gI dX12_scans_37 fX12_172 fun v3 => ?_
  refine s_icmp_ne (tgt := 49) dX12_scans_40 (by decide) (fun c1 => ?_) (fun c1 => ?_)
  · refine s_aload_n dX12_scans_43 rfl ?_
    refine s_iconst (v := 0) dX12_scans_44 (by decide) ?_
    refine s_put dX12_scans_45 fX12_188 rfl rfl ?_
    exact s_return dX12_scans_48 rfl
  · refine s_aload_n dX12_scans_49 rfl ?_
    refine s_virtI (as := []) (rest := []) dX12_scans_50 vX12_191 (CX12_isSign _) (Nat.le_of_ble_eq_true rfl) ⟨Nat.le_refl _, Nat.le_refl _⟩ fun v4 => ?_
    refine s_if_eq (tgt := 174) dX12_scans_53 (by decide) (fun c2 => ?_) (fun c2 => ?_)
    · refine s_aload_n dX12_scans_174 rfl ?_
      refine s_bipush (v := 48) dX12_scans_175 (by decide) ?_
      refine s_bipush (v := 57) dX12_scans_177 (by decide) ?_
      refine s_virtI (as := [.int (48 : Int32), .int (57 : Int32)]) (rest := []) dX12_scans_179 vX12_181 (CX12_isAt _ _ _) (Nat.le_of_ble_eq_true rfl) ⟨Nat.le_refl _, Nat.le_refl _⟩ fun v5 => ?_
      refine s_if_eq (tgt := 281) dX12_scans_182 (by decide) (fun c3 => ?_) (fun c3 => ?_)
      · refine s_aload_n dX12_scans_281 rfl ?_
        refine s_aload_n dX12_scans_282 rfl ?_
        refine s_bipush (v := 59) dX12_scans_283 (by decide) ?_
        refine s_bipush (v := 59) dX12_scans_285 (by decide) ?_
        refine s_virtI (as := [.int (59 : Int32), .int (59 : Int32)]) (rest := [.ref x0]) dX12_scans_287 vX12_181 (CX12_isAt _ _ _) (Nat.le_of_ble_eq_true rfl) ⟨Nat.le_refl _, Nat.le_refl _⟩ fun v6 => ?_
        refine s_if_eq (tgt := 297) dX12_scans_290 (by decide) (fun c4 => ?_) (fun c4 => ?_)
        · refine s_iconst (v := 1) dX12_scans_297 (by decide) ?_
          exact UX12_scans_298_ok x0 x0 (1 : Int32)
        · refine s_iconst (v := 3) dX12_scans_293 (by decide) ?_
          refine s_goto (tgt := 298) dX12_scans_294 (by decide) ?_
          exact UX12_scans_298_ok x0 x0 (3 : Int32)
      · refine s_aload_n dX12_scans_185 rfl ?_
        refine s_iconst (v := 0) dX12_scans_186 (by decide) ?_
        refine s_put dX12_scans_187 fX12_207 rfl rfl ?_
        exact WX12_scans_190_ok (UX12_scans_258_ok) 1000000 x0
    · refine s_aload_n dX12_scans_56 rfl ?_
      refine s_lconst (v := 0) dX12_scans_57 (by decide) ?_
      refine s_put dX12_scans_58 fX12_195 rfl rfl ?_
      refine s_aload_n dX12_scans_61 rfl ?_
      refine s_iconst (v := 1) dX12_scans_62 (by decide) ?_
      refine s_put dX12_scans_63 fX12_198 (by decide) (by decide) ?_
      exact WX12_scans_66_ok  1000000 x0
def FX12_scans (x0 : Nat) : qP Unit := WX12_scans_0 (UX12_scans_24) 1000000 x0
theorem FX12_scans_ok {l : Launch} {g : qG} {d n : Nat} (x0 : Nat) : qS l g mX12_scans (d + 3) n 0 0 0 0 cvV 0 [(0, .ref x0)] [] (FX12_scans x0) := by
  unfold FX12_scans
  exact WX12_scans_0_ok (UX12_scans_24_ok) 1000000 x0
theorem CX12_scans {l : Launch} {g : qG} {d : Nat} (x0 : Nat) : qCt l g mX12_scans (d + 3) 0 0 cvV [.ref x0] (FX12_scans x0) := s_of pn_X12 (Nat.le_of_ble_eq_true rfl) fun n => FX12_scans_ok x0
def UX12_verbOf_75 (x2 : Int32) (s0 : Int32) : qP Int32 :=
if x2 = (-1 : Int32) then (
qr s0) else (
qr x2)
set_option maxRecDepth 100000 in
set_option maxHeartbeats 4000000 in
theorem UX12_verbOf_75_ok {l : Launch} {g : qG} {d n : Nat} (x2 : Int32) (s0 : Int32) : qS l g mX12_verbOf d n 0 0 0 0 cvI 75 [(2, .int x2)] [.int s0] (UX12_verbOf_75 x2 s0) := by
  unfold UX12_verbOf_75
  refine s_istore_n (lv' := [(3, .int s0), (2, .int x2)]) dX12_verbOf_75 (by decide) rfl ?_
  refine s_iload_n dX12_verbOf_76 rfl ?_
  refine s_iconst (v := -1) dX12_verbOf_77 (by decide) ?_
  refine s_icmp_eq (tgt := 85) dX12_verbOf_78 (by decide) (fun c1 => ?_) (fun c1 => ?_)
  · refine s_iload_n dX12_verbOf_85 rfl ?_
    exact s_ireturn dX12_verbOf_86 rfl rfl
  · refine s_iload_n dX12_verbOf_81 rfl ?_
    refine s_goto (tgt := 86) dX12_verbOf_82 (by decide) ?_
    exact s_ireturn dX12_verbOf_86 rfl rfl
def UX12_verbOf_37 (x0 : Int64) (s0 : Int32) : qP Int32 :=
if (lg_cmp x0 (17382886 : Int64)) = 0 then (
UX12_verbOf_75 s0 (3 : Int32)) else (
if (lg_cmp x0 (12343 : Int64)) = 0 then (
UX12_verbOf_75 s0 (4 : Int32)) else (
if (lg_cmp x0 (4153 : Int64)) = 0 then (
UX12_verbOf_75 s0 (5 : Int32)) else (
UX12_verbOf_75 s0 (-1 : Int32))))
set_option maxRecDepth 100000 in
set_option maxHeartbeats 4000000 in
theorem UX12_verbOf_37_ok {l : Launch} {g : qG} {d n : Nat} (x0 : Int64) (s0 : Int32) : qS l g mX12_verbOf d n 0 0 0 0 cvI 37 [(0, .long x0)] [.int s0] (UX12_verbOf_37 x0 s0) := by
  unfold UX12_verbOf_37
  refine s_istore_n (lv' := [(2, .int s0), (0, .long x0)]) dX12_verbOf_37 (by decide) rfl ?_
  refine s_lload_n dX12_verbOf_38 rfl ?_
  refine s_ldc2 dX12_verbOf_39 lX12_216 ?_
  refine s_lcmp dX12_verbOf_42 ?_
  refine s_if_ne (tgt := 50) dX12_verbOf_43 (by decide) (fun c1 => ?_) (fun c1 => ?_)
  · refine s_iconst (v := 3) dX12_verbOf_46 (by decide) ?_
    refine s_goto (tgt := 75) dX12_verbOf_47 (by decide) ?_
    refine s_locals [0] rfl ?_
    exact UX12_verbOf_75_ok s0 (3 : Int32)
  · refine s_lload_n dX12_verbOf_50 rfl ?_
    refine s_ldc2 dX12_verbOf_51 lX12_218 ?_
    refine s_lcmp dX12_verbOf_54 ?_
    refine s_if_ne (tgt := 62) dX12_verbOf_55 (by decide) (fun c2 => ?_) (fun c2 => ?_)
    · refine s_iconst (v := 4) dX12_verbOf_58 (by decide) ?_
      refine s_goto (tgt := 75) dX12_verbOf_59 (by decide) ?_
      refine s_locals [0] rfl ?_
      exact UX12_verbOf_75_ok s0 (4 : Int32)
    · refine s_lload_n dX12_verbOf_62 rfl ?_
      refine s_ldc2 dX12_verbOf_63 lX12_220 ?_
      refine s_lcmp dX12_verbOf_66 ?_
      refine s_if_ne (tgt := 74) dX12_verbOf_67 (by decide) (fun c3 => ?_) (fun c3 => ?_)
      · refine s_iconst (v := 5) dX12_verbOf_70 (by decide) ?_
        refine s_goto (tgt := 75) dX12_verbOf_71 (by decide) ?_
        refine s_locals [0] rfl ?_
        exact UX12_verbOf_75_ok s0 (5 : Int32)
      · refine s_iconst (v := -1) dX12_verbOf_74 (by decide) ?_
        refine s_locals [0] rfl ?_
        exact UX12_verbOf_75_ok s0 (-1 : Int32)
def FX12_verbOf (x0 : Int64) : qP Int32 :=
if (lg_cmp x0 (537076 : Int64)) = 0 then (
UX12_verbOf_37 x0 (0 : Int32)) else (
if (lg_cmp x0 (20194900 : Int64)) = 0 then (
UX12_verbOf_37 x0 (1 : Int32)) else (
if (lg_cmp x0 (109103333 : Int64)) = 0 then (
UX12_verbOf_37 x0 (2 : Int32)) else (
UX12_verbOf_37 x0 (-1 : Int32))))
set_option maxRecDepth 100000 in
set_option maxHeartbeats 4000000 in
theorem FX12_verbOf_ok {l : Launch} {g : qG} {d n : Nat} (x0 : Int64) : qS l g mX12_verbOf d n 0 0 0 0 cvI 0 [(0, .long x0)] [] (FX12_verbOf x0) := by
  unfold FX12_verbOf
  refine s_lload_n dX12_verbOf_0 rfl ?_
  refine s_ldc2 dX12_verbOf_1 lX12_210 ?_
  refine s_lcmp dX12_verbOf_4 ?_
  refine s_if_ne (tgt := 12) dX12_verbOf_5 (by decide) (fun c1 => ?_) (fun c1 => ?_)
  · refine s_iconst (v := 0) dX12_verbOf_8 (by decide) ?_
    refine s_goto (tgt := 37) dX12_verbOf_9 (by decide) ?_
    exact UX12_verbOf_37_ok x0 (0 : Int32)
  · refine s_lload_n dX12_verbOf_12 rfl ?_
    refine s_ldc2 dX12_verbOf_13 lX12_212 ?_
    refine s_lcmp dX12_verbOf_16 ?_
    refine s_if_ne (tgt := 24) dX12_verbOf_17 (by decide) (fun c2 => ?_) (fun c2 => ?_)
    · refine s_iconst (v := 1) dX12_verbOf_20 (by decide) ?_
      refine s_goto (tgt := 37) dX12_verbOf_21 (by decide) ?_
      exact UX12_verbOf_37_ok x0 (1 : Int32)
    · refine s_lload_n dX12_verbOf_24 rfl ?_
      refine s_ldc2 dX12_verbOf_25 lX12_214 ?_
      refine s_lcmp dX12_verbOf_28 ?_
      refine s_if_ne (tgt := 36) dX12_verbOf_29 (by decide) (fun c3 => ?_) (fun c3 => ?_)
      · refine s_iconst (v := 2) dX12_verbOf_32 (by decide) ?_
        refine s_goto (tgt := 37) dX12_verbOf_33 (by decide) ?_
        exact UX12_verbOf_37_ok x0 (2 : Int32)
      · refine s_iconst (v := -1) dX12_verbOf_36 (by decide) ?_
        exact UX12_verbOf_37_ok x0 (-1 : Int32)
theorem CX12_verbOf {l : Launch} {g : qG} {d : Nat} (x0 : Int64) : qCt l g mX12_verbOf d 0 0 cvI [.long x0] (FX12_verbOf x0) := s_of pn_X12 (Nat.le_of_ble_eq_true rfl) fun n => FX12_verbOf_ok x0
def UX12_takesWord_56 (x0 : Nat) (s0 : Int32) : qP Int32 :=
if s0 = 0 then (
qgd (s0 = 0 ∨ s0 = 1) (qr s0)) else (
qb (gR 12 x0 21) fun v1 =>
qb (gI 12 x0 22) fun v2 =>
qb (gI 12 x0 16) fun v3 =>
qb (sI v1 (((5 : Int32) * v2) + (3 : Int32)) v3) fun _ =>
qb (gR 12 x0 21) fun v4 =>
qb (gI 12 x0 22) fun v5 =>
qb (gI 12 x0 15) fun v6 =>
qb (gI 12 x0 16) fun v7 =>
qb (sI v4 (((5 : Int32) * v5) + (4 : Int32)) (v6 - v7)) fun _ =>
qb (qcl 12 x0) fun _ => qb (FX12_scans x0) fun v8 =>
qgd (s0 = 0 ∨ s0 = 1) (qr s0))
set_option maxRecDepth 100000 in
set_option maxHeartbeats 4000000 in
theorem UX12_takesWord_56_ok {l : Launch} {g : qG} {d n : Nat} (x0 : Nat) (s0 : Int32) : qS l g mX12_takesWord (d + 4) n 0 0 0 0 cvI 56 [(0, .ref x0)] [.int s0] (UX12_takesWord_56 x0 s0) := by
  unfold UX12_takesWord_56
  refine s_istore_n (lv' := [(2, .int s0), (0, .ref x0)]) dX12_takesWord_56 (by decide) rfl ?_
  refine s_iload_n dX12_takesWord_57 rfl ?_
  refine s_if_eq (tgt := 104) dX12_takesWord_58 (by decide) (fun c1 => ?_) (fun c1 => ?_)
  · refine s_iload_n dX12_takesWord_104 rfl ?_
    exact s_zreturn dX12_takesWord_105 rfl
  · refine s_aload_n dX12_takesWord_61 rfl ?_
    refine s_gR dX12_takesWord_62 fX12_44 fun v1 => ?_
    refine s_iconst (v := 5) dX12_takesWord_65 (by decide) ?_
    refine s_aload_n dX12_takesWord_66 rfl ?_
    refine s_gI dX12_takesWord_67 fX12_222 fun v2 => ?_
    refine s_imul dX12_takesWord_70 ?_
    refine s_iconst (v := 3) dX12_takesWord_71 (by decide) ?_
    refine s_iadd dX12_takesWord_72 ?_
    refine s_aload_n dX12_takesWord_73 rfl ?_
    refine s_gI dX12_takesWord_74 fX12_185 fun v3 => ?_
    refine s_sI dX12_takesWord_77 ?_
    refine s_aload_n dX12_takesWord_78 rfl ?_
    refine s_gR dX12_takesWord_79 fX12_44 fun v4 => ?_
    refine s_iconst (v := 5) dX12_takesWord_82 (by decide) ?_
    refine s_aload_n dX12_takesWord_83 rfl ?_
    refine s_gI dX12_takesWord_84 fX12_222 fun v5 => ?_
    refine s_imul dX12_takesWord_87 ?_
    refine s_iconst (v := 4) dX12_takesWord_88 (by decide) ?_
    refine s_iadd dX12_takesWord_89 ?_
    refine s_aload_n dX12_takesWord_90 rfl ?_
    refine s_gI dX12_takesWord_91 fX12_178 fun v6 => ?_
    refine s_aload_n dX12_takesWord_94 rfl ?_
    refine s_gI dX12_takesWord_95 fX12_185 fun v7 => ?_
    refine s_isub dX12_takesWord_98 ?_
    refine s_sI dX12_takesWord_99 ?_
    refine s_aload_n dX12_takesWord_100 rfl ?_
    refine s_virtV (as := []) (rest := []) dX12_takesWord_101 vX12_225 (CX12_scans _) (Nat.le_of_ble_eq_true rfl) ⟨Nat.le_refl _, Nat.le_refl _⟩ fun v8 => ?_
    refine s_iload_n dX12_takesWord_104 rfl ?_
    exact s_zreturn dX12_takesWord_105 rfl
def FX12_takesWord (x0 : Nat) (x1 : Int32) : qP Int32 :=
qb (gI 12 x0 17) fun v1 =>
if v1 = (4 : Int32) then (
if x1 = (4 : Int32) then (
qb (gI 12 x0 15) fun v2 =>
qb (gI 12 x0 16) fun v3 =>
if (8 : Int32) < (v2 - v3) then (
UX12_takesWord_56 x0 (0 : Int32)) else (
UX12_takesWord_56 x0 (1 : Int32))) else (
qb (gI 12 x0 20) fun v4 =>
if v4 = 0 then (
UX12_takesWord_56 x0 (0 : Int32)) else (
qb (gI 12 x0 15) fun v5 =>
qb (gI 12 x0 16) fun v6 =>
if (60 : Int32) < (v5 - v6) then (
UX12_takesWord_56 x0 (0 : Int32)) else (
UX12_takesWord_56 x0 (1 : Int32))))) else (
UX12_takesWord_56 x0 (0 : Int32))
set_option maxRecDepth 100000 in
set_option maxHeartbeats 4000000 in
theorem FX12_takesWord_ok {l : Launch} {g : qG} {d n : Nat} (x0 : Nat) (x1 : Int32) : qS l g mX12_takesWord (d + 4) n 0 0 0 0 cvI 0 [(0, .ref x0), (1, .int x1)] [] (FX12_takesWord x0 x1) := by
  unfold FX12_takesWord
  refine s_aload_n dX12_takesWord_0 rfl ?_
  refine s_gI dX12_takesWord_1 fX12_188 fun v1 => ?_
  refine s_iconst (v := 4) dX12_takesWord_4 (by decide) ?_
  refine s_icmp_ne (tgt := 55) dX12_takesWord_5 (by decide) (fun c1 => ?_) (fun c1 => ?_)
  · refine s_iload_n dX12_takesWord_8 rfl ?_
    refine s_iconst (v := 4) dX12_takesWord_9 (by decide) ?_
    refine s_icmp_ne (tgt := 30) dX12_takesWord_10 (by decide) (fun c2 => ?_) (fun c2 => ?_)
    · refine s_aload_n dX12_takesWord_13 rfl ?_
      refine s_gI dX12_takesWord_14 fX12_178 fun v2 => ?_
      refine s_aload_n dX12_takesWord_17 rfl ?_
      refine s_gI dX12_takesWord_18 fX12_185 fun v3 => ?_
      refine s_isub dX12_takesWord_21 ?_
      refine s_bipush (v := 8) dX12_takesWord_22 (by decide) ?_
      refine s_icmp_gt (tgt := 55) dX12_takesWord_24 (by decide) (fun c3 => ?_) (fun c3 => ?_)
      · refine s_iconst (v := 0) dX12_takesWord_55 (by decide) ?_
        refine s_locals [0] rfl ?_
        exact UX12_takesWord_56_ok x0 (0 : Int32)
      · refine s_goto (tgt := 51) dX12_takesWord_27 (by decide) ?_
        refine s_iconst (v := 1) dX12_takesWord_51 (by decide) ?_
        refine s_goto (tgt := 56) dX12_takesWord_52 (by decide) ?_
        refine s_locals [0] rfl ?_
        exact UX12_takesWord_56_ok x0 (1 : Int32)
    · refine s_aload_n dX12_takesWord_30 rfl ?_
      refine s_gI dX12_takesWord_31 fX12_198 fun v4 => ?_
      refine s_if_eq (tgt := 55) dX12_takesWord_34 (by decide) (fun c4 => ?_) (fun c4 => ?_)
      · refine s_iconst (v := 0) dX12_takesWord_55 (by decide) ?_
        refine s_locals [0] rfl ?_
        exact UX12_takesWord_56_ok x0 (0 : Int32)
      · refine s_aload_n dX12_takesWord_37 rfl ?_
        refine s_gI dX12_takesWord_38 fX12_178 fun v5 => ?_
        refine s_aload_n dX12_takesWord_41 rfl ?_
        refine s_gI dX12_takesWord_42 fX12_185 fun v6 => ?_
        refine s_isub dX12_takesWord_45 ?_
        refine s_bipush (v := 60) dX12_takesWord_46 (by decide) ?_
        refine s_icmp_gt (tgt := 55) dX12_takesWord_48 (by decide) (fun c5 => ?_) (fun c5 => ?_)
        · refine s_iconst (v := 0) dX12_takesWord_55 (by decide) ?_
          refine s_locals [0] rfl ?_
          exact UX12_takesWord_56_ok x0 (0 : Int32)
        · refine s_iconst (v := 1) dX12_takesWord_51 (by decide) ?_
          refine s_goto (tgt := 56) dX12_takesWord_52 (by decide) ?_
          refine s_locals [0] rfl ?_
          exact UX12_takesWord_56_ok x0 (1 : Int32)
  · refine s_iconst (v := 0) dX12_takesWord_55 (by decide) ?_
    refine s_locals [0] rfl ?_
    exact UX12_takesWord_56_ok x0 (0 : Int32)
theorem CX12_takesWord {l : Launch} {g : qG} {d : Nat} (x0 : Nat) (x1 : Int32) : qCt l g mX12_takesWord (d + 4) 0 0 cvI [.ref x0, .int x1] (FX12_takesWord x0 x1) := s_of pn_X12 (Nat.le_of_ble_eq_true rfl) fun n => FX12_takesWord_ok x0 x1
def UX12_reads_92 (R : Nat → Int32 → Int32 → Int32 → qP Int32) (K136 : Nat → Int32 → qP Int32) (x0 : Nat) (x1 : Int32) (x2 : Int32) (x3 : Int32) : qP Int32 :=
if x2 ≤ x3 then (
K136 x0 x1) else (
qb (gI 12 x0 17) fun v1 =>
if v1 = (2 : Int32) then (
qb (gR 12 x0 21) fun v2 =>
qb (gI 12 x0 22) fun v3 =>
qb (gI 12 x0 18) fun v4 =>
qb (sI v2 ((((5 : Int32) * v3) + (1 : Int32)) + x3) v4) fun _ =>
qb (qcl 12 x0) fun _ => qb (FX12_scans x0) fun v5 =>
R x0 x1 x2 (x3 + 1)) else (
qr (0 : Int32)))
set_option maxRecDepth 100000 in
set_option maxHeartbeats 4000000 in
theorem UX12_reads_92_ok {l : Launch} {g : qG} {d n : Nat} {R : Nat → Int32 → Int32 → Int32 → qP Int32} (hR : ∀ (x0 : Nat) (x1 : Int32) (x2 : Int32) (x3 : Int32), qS l g mX12_reads (d + 5) n 0 0 0 0 cvI 92 [(0, .ref x0), (1, .int x1), (2, .int x2), (3, .int x3)] [] (R x0 x1 x2 x3)) {K136 : Nat → Int32 → qP Int32} (hK136 : ∀ (x0 : Nat) (x1 : Int32), qS l g mX12_reads (d + 5) n 0 0 0 0 cvI 136 [(0, .ref x0), (1, .int x1)] [] (K136 x0 x1)) (x0 : Nat) (x1 : Int32) (x2 : Int32) (x3 : Int32) : qS l g mX12_reads (d + 5) n 0 0 0 0 cvI 92 [(0, .ref x0), (1, .int x1), (2, .int x2), (3, .int x3)] [] (UX12_reads_92 R K136 x0 x1 x2 x3) := by
  unfold UX12_reads_92
  refine s_iload_n dX12_reads_92 rfl ?_
  refine s_iload_n dX12_reads_93 rfl ?_
  refine s_icmp_ge (tgt := 136) dX12_reads_94 (by decide) (fun c1 => ?_) (fun c1 => ?_)
  · refine s_locals [0, 1] rfl ?_
    exact hK136 x0 x1
  · refine s_aload_n dX12_reads_97 rfl ?_
    refine s_gI dX12_reads_98 fX12_188 fun v1 => ?_
    refine s_iconst (v := 2) dX12_reads_101 (by decide) ?_
    refine s_icmp_eq (tgt := 107) dX12_reads_102 (by decide) (fun c2 => ?_) (fun c2 => ?_)
    · refine s_aload_n dX12_reads_107 rfl ?_
      refine s_gR dX12_reads_108 fX12_44 fun v2 => ?_
      refine s_iconst (v := 5) dX12_reads_111 (by decide) ?_
      refine s_aload_n dX12_reads_112 rfl ?_
      refine s_gI dX12_reads_113 fX12_222 fun v3 => ?_
      refine s_imul dX12_reads_116 ?_
      refine s_iconst (v := 1) dX12_reads_117 (by decide) ?_
      refine s_iadd dX12_reads_118 ?_
      refine s_iload_n dX12_reads_119 rfl ?_
      refine s_iadd dX12_reads_120 ?_
      refine s_aload_n dX12_reads_121 rfl ?_
      refine s_gI dX12_reads_122 fX12_207 fun v4 => ?_
      refine s_sI dX12_reads_125 ?_
      refine s_aload_n dX12_reads_126 rfl ?_
      refine s_virtV (as := []) (rest := []) dX12_reads_127 vX12_225 (CX12_scans _) (Nat.le_of_ble_eq_true rfl) ⟨Nat.le_refl _, Nat.le_refl _⟩ fun v5 => ?_
      refine s_iinc (lv' := [(3, .int (x3 + 1)), (0, .ref x0), (1, .int x1), (2, .int x2)]) dX12_reads_130 rfl (by decide) rfl ?_
      refine s_goto (tgt := 92) dX12_reads_133 (by decide) ?_
      refine s_locals [1, 2, 3, 0] rfl ?_
      exact hR x0 x1 x2 (x3 + 1)
    · refine s_iconst (v := 0) dX12_reads_105 (by decide) ?_
      exact s_ireturn dX12_reads_106 rfl (by decide)
def WX12_reads_92 (K136 : Nat → Int32 → qP Int32) : Nat → Nat → Int32 → Int32 → Int32 → qP Int32
  | 0 => fun _ _ _ _ => qfail
  | N + 1 => fun x0 x1 x2 x3 => UX12_reads_92 (WX12_reads_92 K136 N) K136 x0 x1 x2 x3
theorem WX12_reads_92_ok {l : Launch} {g : qG} {d n : Nat} {K136 : Nat → Int32 → qP Int32} (hK136 : ∀ (x0 : Nat) (x1 : Int32), qS l g mX12_reads (d + 5) n 0 0 0 0 cvI 136 [(0, .ref x0), (1, .int x1)] [] (K136 x0 x1)) : ∀ (N : Nat) (x0 : Nat) (x1 : Int32) (x2 : Int32) (x3 : Int32), qS l g mX12_reads (d + 5) n 0 0 0 0 cvI 92 [(0, .ref x0), (1, .int x1), (2, .int x2), (3, .int x3)] [] (WX12_reads_92 K136 N x0 x1 x2 x3) := by
  intro N
  induction N with
  | zero => intro x0 x1 x2 x3; exact s_fail
  | succ N ih => intro x0 x1 x2 x3; exact UX12_reads_92_ok ih hK136 x0 x1 x2 x3
def UX12_reads_149 (R : Nat → qP Int32) (x0 : Nat) : qP Int32 :=
qb (gI 12 x0 17) fun v1 =>
if v1 = (3 : Int32) then (
qb (gI 12 x0 22) fun v2 =>
qb (pV 12 x0 22 (.int (v2 + (1 : Int32)))) fun _ =>
qb (qcl 12 x0) fun _ => qb (FX12_scans x0) fun v3 =>
R x0) else (
qr (0 : Int32))
set_option maxRecDepth 100000 in
set_option maxHeartbeats 4000000 in
theorem UX12_reads_149_ok {l : Launch} {g : qG} {d n : Nat} {R : Nat → qP Int32} (hR : ∀ (x0 : Nat), qS l g mX12_reads (d + 5) n 0 0 0 0 cvI 14 [(0, .ref x0)] [] (R x0)) (x0 : Nat) : qS l g mX12_reads (d + 5) n 0 0 0 0 cvI 149 [(0, .ref x0)] [] (UX12_reads_149 R x0) := by
  unfold UX12_reads_149
  refine s_aload_n dX12_reads_149 rfl ?_
  refine s_gI dX12_reads_150 fX12_188 fun v1 => ?_
  refine s_iconst (v := 3) dX12_reads_153 (by decide) ?_
  refine s_icmp_eq (tgt := 159) dX12_reads_154 (by decide) (fun c1 => ?_) (fun c1 => ?_)
  · refine s_aload_n dX12_reads_159 rfl ?_
    refine s_dup dX12_reads_160 rfl ?_
    refine s_gI dX12_reads_161 fX12_222 fun v2 => ?_
    refine s_iconst (v := 1) dX12_reads_164 (by decide) ?_
    refine s_iadd dX12_reads_165 ?_
    refine s_put dX12_reads_166 fX12_222 rfl rfl ?_
    refine s_aload_n dX12_reads_169 rfl ?_
    refine s_virtV (as := []) (rest := []) dX12_reads_170 vX12_225 (CX12_scans _) (Nat.le_of_ble_eq_true rfl) ⟨Nat.le_refl _, Nat.le_refl _⟩ fun v3 => ?_
    refine s_goto (tgt := 14) dX12_reads_173 (by decide) ?_
    exact hR x0
  · refine s_iconst (v := 0) dX12_reads_157 (by decide) ?_
    exact s_ireturn dX12_reads_158 rfl (by decide)
def UX12_reads_136 (R : Nat → qP Int32) (x0 : Nat) (x1 : Int32) : qP Int32 :=
if x1 ≤ (3 : Int32) then (
UX12_reads_149 R x0) else (
qb (qcl 12 x0) fun _ => qb (FX12_takesWord x0 x1) fun v1 =>
if v1 = 0 then (
qr (0 : Int32)) else (
UX12_reads_149 R x0))
set_option maxRecDepth 100000 in
set_option maxHeartbeats 4000000 in
theorem UX12_reads_136_ok {l : Launch} {g : qG} {d n : Nat} {R : Nat → qP Int32} (hR : ∀ (x0 : Nat), qS l g mX12_reads (d + 5) n 0 0 0 0 cvI 14 [(0, .ref x0)] [] (R x0)) (x0 : Nat) (x1 : Int32) : qS l g mX12_reads (d + 5) n 0 0 0 0 cvI 136 [(0, .ref x0), (1, .int x1)] [] (UX12_reads_136 R x0 x1) := by
  unfold UX12_reads_136
  refine s_iload_n dX12_reads_136 rfl ?_
  refine s_iconst (v := 3) dX12_reads_137 (by decide) ?_
  refine s_icmp_le (tgt := 149) dX12_reads_138 (by decide) (fun c1 => ?_) (fun c1 => ?_)
  · refine s_locals [0] rfl ?_
    exact UX12_reads_149_ok hR x0
  · refine s_aload_n dX12_reads_141 rfl ?_
    refine s_iload_n dX12_reads_142 rfl ?_
    refine s_virtI (as := [.int x1]) (rest := []) dX12_reads_143 vX12_232 (CX12_takesWord _ _) (Nat.le_of_ble_eq_true rfl) ⟨Nat.le_refl _, Nat.le_refl _⟩ fun v1 => ?_
    refine s_if_eq (tgt := 157) dX12_reads_146 (by decide) (fun c2 => ?_) (fun c2 => ?_)
    · refine s_iconst (v := 0) dX12_reads_157 (by decide) ?_
      exact s_ireturn dX12_reads_158 rfl (by decide)
    · refine s_locals [0] rfl ?_
      exact UX12_reads_149_ok hR x0
def UX12_reads_47 (R : Nat → qP Int32) (x0 : Nat) (s0 : Int32) : qP Int32 :=
if s0 = (-1 : Int32) then (
qr (0 : Int32)) else (
qb (gR 12 x0 21) fun v1 =>
qb (gI 12 x0 22) fun v2 =>
qb (sI v1 ((5 : Int32) * v2) s0) fun _ =>
qb (qcl 12 x0) fun _ => qb (FX12_scans x0) fun v3 =>
if s0 = 0 then (
WX12_reads_92 (UX12_reads_136 R) 1000000 x0 s0 (2 : Int32) (0 : Int32)) else (
if s0 = (5 : Int32) then (
WX12_reads_92 (UX12_reads_136 R) 1000000 x0 s0 (0 : Int32) (0 : Int32)) else (
WX12_reads_92 (UX12_reads_136 R) 1000000 x0 s0 (1 : Int32) (0 : Int32))))
set_option maxRecDepth 100000 in
set_option maxHeartbeats 4000000 in
theorem UX12_reads_47_ok {l : Launch} {g : qG} {d n : Nat} {R : Nat → qP Int32} (hR : ∀ (x0 : Nat), qS l g mX12_reads (d + 5) n 0 0 0 0 cvI 14 [(0, .ref x0)] [] (R x0)) (x0 : Nat) (s0 : Int32) : qS l g mX12_reads (d + 5) n 0 0 0 0 cvI 47 [(0, .ref x0)] [.int s0] (UX12_reads_47 R x0 s0) := by
  unfold UX12_reads_47
  refine s_istore_n (lv' := [(1, .int s0), (0, .ref x0)]) dX12_reads_47 (by decide) rfl ?_
  refine s_iload_n dX12_reads_48 rfl ?_
  refine s_iconst (v := -1) dX12_reads_49 (by decide) ?_
  refine s_icmp_ne (tgt := 55) dX12_reads_50 (by decide) (fun c1 => ?_) (fun c1 => ?_)
  · refine s_iconst (v := 0) dX12_reads_53 (by decide) ?_
    exact s_ireturn dX12_reads_54 rfl (by decide)
  · refine s_aload_n dX12_reads_55 rfl ?_
    refine s_gR dX12_reads_56 fX12_44 fun v1 => ?_
    refine s_iconst (v := 5) dX12_reads_59 (by decide) ?_
    refine s_aload_n dX12_reads_60 rfl ?_
    refine s_gI dX12_reads_61 fX12_222 fun v2 => ?_
    refine s_imul dX12_reads_64 ?_
    refine s_iload_n dX12_reads_65 rfl ?_
    refine s_sI dX12_reads_66 ?_
    refine s_aload_n dX12_reads_67 rfl ?_
    refine s_virtV (as := []) (rest := []) dX12_reads_68 vX12_225 (CX12_scans _) (Nat.le_of_ble_eq_true rfl) ⟨Nat.le_refl _, Nat.le_refl _⟩ fun v3 => ?_
    refine s_iload_n dX12_reads_71 rfl ?_
    refine s_if_ne (tgt := 79) dX12_reads_72 (by decide) (fun c2 => ?_) (fun c2 => ?_)
    · refine s_iconst (v := 2) dX12_reads_75 (by decide) ?_
      refine s_goto (tgt := 89) dX12_reads_76 (by decide) ?_
      refine s_istore_n (lv' := [(2, .int (2 : Int32)), (1, .int s0), (0, .ref x0)]) dX12_reads_89 (by decide) rfl ?_
      refine s_iconst (v := 0) dX12_reads_90 (by decide) ?_
      refine s_istore_n (lv' := [(3, .int (0 : Int32)), (2, .int (2 : Int32)), (1, .int s0), (0, .ref x0)]) dX12_reads_91 (by decide) rfl ?_
      refine s_locals [3, 2, 1, 0] rfl ?_
      exact WX12_reads_92_ok (UX12_reads_136_ok hR) 1000000 x0 s0 (2 : Int32) (0 : Int32)
    · refine s_iload_n dX12_reads_79 rfl ?_
      refine s_iconst (v := 5) dX12_reads_80 (by decide) ?_
      refine s_icmp_ne (tgt := 88) dX12_reads_81 (by decide) (fun c3 => ?_) (fun c3 => ?_)
      · refine s_iconst (v := 0) dX12_reads_84 (by decide) ?_
        refine s_goto (tgt := 89) dX12_reads_85 (by decide) ?_
        refine s_istore_n (lv' := [(2, .int (0 : Int32)), (1, .int s0), (0, .ref x0)]) dX12_reads_89 (by decide) rfl ?_
        refine s_iconst (v := 0) dX12_reads_90 (by decide) ?_
        refine s_istore_n (lv' := [(3, .int (0 : Int32)), (2, .int (0 : Int32)), (1, .int s0), (0, .ref x0)]) dX12_reads_91 (by decide) rfl ?_
        refine s_locals [3, 2, 1, 0] rfl ?_
        exact WX12_reads_92_ok (UX12_reads_136_ok hR) 1000000 x0 s0 (0 : Int32) (0 : Int32)
      · refine s_iconst (v := 1) dX12_reads_88 (by decide) ?_
        refine s_istore_n (lv' := [(2, .int (1 : Int32)), (1, .int s0), (0, .ref x0)]) dX12_reads_89 (by decide) rfl ?_
        refine s_iconst (v := 0) dX12_reads_90 (by decide) ?_
        refine s_istore_n (lv' := [(3, .int (0 : Int32)), (2, .int (1 : Int32)), (1, .int s0), (0, .ref x0)]) dX12_reads_91 (by decide) rfl ?_
        refine s_locals [3, 2, 1, 0] rfl ?_
        exact WX12_reads_92_ok (UX12_reads_136_ok hR) 1000000 x0 s0 (1 : Int32) (0 : Int32)
def UX12_reads_14 (R : Nat → qP Int32) (x0 : Nat) : qP Int32 :=
qb (gI 12 x0 17) fun v1 =>
if v1 = 0 then (
qr (1 : Int32)) else (
qb (gI 12 x0 17) fun v2 =>
if v2 = (4 : Int32) then (
qb (gI 12 x0 20) fun v3 =>
if v3 = 0 then (
UX12_reads_47 R x0 (-1 : Int32)) else (
qb (gL 12 x0 19) fun v4 =>
qb (FX12_verbOf v4) fun v5 =>
UX12_reads_47 R x0 v5)) else (
UX12_reads_47 R x0 (-1 : Int32)))
set_option maxRecDepth 100000 in
set_option maxHeartbeats 4000000 in
theorem UX12_reads_14_ok {l : Launch} {g : qG} {d n : Nat} {R : Nat → qP Int32} (hR : ∀ (x0 : Nat), qS l g mX12_reads (d + 5) n 0 0 0 0 cvI 14 [(0, .ref x0)] [] (R x0)) (x0 : Nat) : qS l g mX12_reads (d + 5) n 0 0 0 0 cvI 14 [(0, .ref x0)] [] (UX12_reads_14 R x0) := by
  unfold UX12_reads_14
  refine s_aload_n dX12_reads_14 rfl ?_
  refine s_gI dX12_reads_15 fX12_188 fun v1 => ?_
  refine s_if_eq (tgt := 176) dX12_reads_18 (by decide) (fun c1 => ?_) (fun c1 => ?_)
  · refine s_iconst (v := 1) dX12_reads_176 (by decide) ?_
    exact s_ireturn dX12_reads_177 rfl (by decide)
  · refine s_aload_n dX12_reads_21 rfl ?_
    refine s_gI dX12_reads_22 fX12_188 fun v2 => ?_
    refine s_iconst (v := 4) dX12_reads_25 (by decide) ?_
    refine s_icmp_ne (tgt := 46) dX12_reads_26 (by decide) (fun c2 => ?_) (fun c2 => ?_)
    · refine s_aload_n dX12_reads_29 rfl ?_
      refine s_gI dX12_reads_30 fX12_198 fun v3 => ?_
      refine s_if_eq (tgt := 46) dX12_reads_33 (by decide) (fun c3 => ?_) (fun c3 => ?_)
      · refine s_iconst (v := -1) dX12_reads_46 (by decide) ?_
        exact UX12_reads_47_ok hR x0 (-1 : Int32)
      · refine s_aload_n dX12_reads_36 rfl ?_
        refine s_gL dX12_reads_37 fX12_195 fun v4 => ?_
        refine s_staticI (as := [.long v4]) (rest := []) dX12_reads_40 sX12_228 (CX12_verbOf _) (Nat.le_of_ble_eq_true rfl) ⟨Nat.le_refl _, Nat.le_refl _⟩ fun v5 => ?_
        refine s_goto (tgt := 47) dX12_reads_43 (by decide) ?_
        exact UX12_reads_47_ok hR x0 v5
    · refine s_iconst (v := -1) dX12_reads_46 (by decide) ?_
      exact UX12_reads_47_ok hR x0 (-1 : Int32)
def WX12_reads_14 : Nat → Nat → qP Int32
  | 0 => fun _ => qfail
  | N + 1 => fun x0 => UX12_reads_14 (WX12_reads_14  N)  x0
theorem WX12_reads_14_ok {l : Launch} {g : qG} {d n : Nat} : ∀ (N : Nat) (x0 : Nat), qS l g mX12_reads (d + 5) n 0 0 0 0 cvI 14 [(0, .ref x0)] [] (WX12_reads_14  N x0) := by
  intro N
  induction N with
  | zero => intro x0; exact s_fail
  | succ N ih => intro x0; exact UX12_reads_14_ok ih  x0
def FX12_reads (x0 : Nat) : qP Int32 :=
qb (pV 12 x0 15 (.int (0 : Int32))) fun _ =>
qb (pV 12 x0 22 (.int (0 : Int32))) fun _ =>
qb (qcl 12 x0) fun _ => qb (FX12_scans x0) fun v1 =>
WX12_reads_14 1000000 x0
set_option maxRecDepth 100000 in
set_option maxHeartbeats 4000000 in
theorem FX12_reads_ok {l : Launch} {g : qG} {d n : Nat} (x0 : Nat) : qS l g mX12_reads (d + 5) n 0 0 0 0 cvI 0 [(0, .ref x0)] [] (FX12_reads x0) := by
  unfold FX12_reads
  refine s_aload_n dX12_reads_0 rfl ?_
  refine s_iconst (v := 0) dX12_reads_1 (by decide) ?_
  refine s_put dX12_reads_2 fX12_178 rfl rfl ?_
  refine s_aload_n dX12_reads_5 rfl ?_
  refine s_iconst (v := 0) dX12_reads_6 (by decide) ?_
  refine s_put dX12_reads_7 fX12_222 rfl rfl ?_
  refine s_aload_n dX12_reads_10 rfl ?_
  refine s_virtV (as := []) (rest := []) dX12_reads_11 vX12_225 (CX12_scans _) (Nat.le_of_ble_eq_true rfl) ⟨Nat.le_refl _, Nat.le_refl _⟩ fun v1 => ?_
  exact WX12_reads_14_ok  1000000 x0
theorem CX12_reads {l : Launch} {g : qG} {d : Nat} (x0 : Nat) : qCt l g mX12_reads (d + 5) 0 0 cvI [.ref x0] (FX12_reads x0) := s_of pn_X12 (Nat.le_of_ble_eq_true rfl) fun n => FX12_reads_ok x0
def UX12_tellsItem_253 (s0 : Int32) : qP Int32 :=
if s0 < 0 then (
qr (0 : Int32)) else (
qr (1 : Int32))
set_option maxRecDepth 100000 in
set_option maxHeartbeats 4000000 in
theorem UX12_tellsItem_253_ok {l : Launch} {g : qG} {d n : Nat} (s0 : Int32) : qS l g mX12_tellsItem (d + 3) n 0 0 0 0 cvI 253 [] [.int s0] (UX12_tellsItem_253 s0) := by
  unfold UX12_tellsItem_253
  refine s_istore (lv' := [(6, .int s0)]) dX12_tellsItem_253 (by decide) rfl ?_
  refine s_iload dX12_tellsItem_255 rfl ?_
  refine s_if_lt (tgt := 264) dX12_tellsItem_257 (by decide) (fun c1 => ?_) (fun c1 => ?_)
  · refine s_iconst (v := 0) dX12_tellsItem_264 (by decide) ?_
    exact s_ireturn dX12_tellsItem_265 rfl (by decide)
  · refine s_iconst (v := 1) dX12_tellsItem_260 (by decide) ?_
    refine s_goto (tgt := 265) dX12_tellsItem_261 (by decide) ?_
    exact s_ireturn dX12_tellsItem_265 rfl (by decide)
def UX12_tellsItem_191 (R : Nat → Int32 → Int32 → Int32 → Int32 → Int32 → Int32 → qP Int32) (x0 : Nat) (x2 : Int32) (x3 : Int32) (x4 : Int32) (x5 : Int32) (x7 : Int32) (s0 : Int32) : qP Int32 :=
if s0 ≤ 0 then (
R x0 x2 x3 x4 x5 (0 : Int32) (x7 + 1)) else (
R x0 x2 x3 x4 x5 (1 : Int32) (x7 + 1))
set_option maxRecDepth 100000 in
set_option maxHeartbeats 4000000 in
theorem UX12_tellsItem_191_ok {l : Launch} {g : qG} {d n : Nat} {R : Nat → Int32 → Int32 → Int32 → Int32 → Int32 → Int32 → qP Int32} (hR : ∀ (x0 : Nat) (x2 : Int32) (x3 : Int32) (x4 : Int32) (x5 : Int32) (x6 : Int32) (x7 : Int32), qS l g mX12_tellsItem (d + 3) n 0 0 0 0 cvI 115 [(0, .ref x0), (2, .int x2), (3, .int x3), (4, .int x4), (5, .int x5), (6, .int x6), (7, .int x7)] [] (R x0 x2 x3 x4 x5 x6 x7)) (x0 : Nat) (x2 : Int32) (x3 : Int32) (x4 : Int32) (x5 : Int32) (x7 : Int32) (s0 : Int32) : qS l g mX12_tellsItem (d + 3) n 0 0 0 0 cvI 191 [(0, .ref x0), (2, .int x2), (3, .int x3), (4, .int x4), (5, .int x5), (7, .int x7)] [.int s0] (UX12_tellsItem_191 R x0 x2 x3 x4 x5 x7 s0) := by
  unfold UX12_tellsItem_191
  refine s_if_le (tgt := 198) dX12_tellsItem_191 (by decide) (fun c1 => ?_) (fun c1 => ?_)
  · refine s_iconst (v := 0) dX12_tellsItem_198 (by decide) ?_
    refine s_istore (lv' := [(6, .int (0 : Int32)), (0, .ref x0), (2, .int x2), (3, .int x3), (4, .int x4), (5, .int x5), (7, .int x7)]) dX12_tellsItem_199 (by decide) rfl ?_
    refine s_iinc (lv' := [(7, .int (x7 + 1)), (6, .int (0 : Int32)), (0, .ref x0), (2, .int x2), (3, .int x3), (4, .int x4), (5, .int x5)]) dX12_tellsItem_201 rfl (by decide) rfl ?_
    refine s_goto (tgt := 115) dX12_tellsItem_204 (by decide) ?_
    refine s_locals [2, 3, 4, 5, 6, 1, 0] rfl ?_
    exact hR x0 x2 x3 x4 x5 (0 : Int32) (x7 + 1)
  · refine s_iconst (v := 1) dX12_tellsItem_194 (by decide) ?_
    refine s_goto (tgt := 199) dX12_tellsItem_195 (by decide) ?_
    refine s_istore (lv' := [(6, .int (1 : Int32)), (0, .ref x0), (2, .int x2), (3, .int x3), (4, .int x4), (5, .int x5), (7, .int x7)]) dX12_tellsItem_199 (by decide) rfl ?_
    refine s_iinc (lv' := [(7, .int (x7 + 1)), (6, .int (1 : Int32)), (0, .ref x0), (2, .int x2), (3, .int x3), (4, .int x4), (5, .int x5)]) dX12_tellsItem_201 rfl (by decide) rfl ?_
    refine s_goto (tgt := 115) dX12_tellsItem_204 (by decide) ?_
    refine s_locals [2, 3, 4, 5, 6, 1, 0] rfl ?_
    exact hR x0 x2 x3 x4 x5 (1 : Int32) (x7 + 1)
def UX12_tellsItem_168 (R : Nat → Int32 → Int32 → Int32 → Int32 → Int32 → Int32 → qP Int32) (x0 : Nat) (x2 : Int32) (x3 : Int32) (x4 : Int32) (x5 : Int32) (x7 : Int32) (s0 : Int32) : qP Int32 :=
if x3 = (4 : Int32) then (
qb (qcl 12 x0) fun _ => qb (FX12_law x0 x2 s0) fun v1 =>
UX12_tellsItem_191 R x0 x2 x3 x4 x5 x7 v1) else (
qb (qcl 12 x0) fun _ => qb (FX12_sign x0 s0) fun v2 =>
UX12_tellsItem_191 R x0 x2 x3 x4 x5 x7 v2)
set_option maxRecDepth 100000 in
set_option maxHeartbeats 4000000 in
theorem UX12_tellsItem_168_ok {l : Launch} {g : qG} {d n : Nat} {R : Nat → Int32 → Int32 → Int32 → Int32 → Int32 → Int32 → qP Int32} (hR : ∀ (x0 : Nat) (x2 : Int32) (x3 : Int32) (x4 : Int32) (x5 : Int32) (x6 : Int32) (x7 : Int32), qS l g mX12_tellsItem (d + 3) n 0 0 0 0 cvI 115 [(0, .ref x0), (2, .int x2), (3, .int x3), (4, .int x4), (5, .int x5), (6, .int x6), (7, .int x7)] [] (R x0 x2 x3 x4 x5 x6 x7)) (x0 : Nat) (x2 : Int32) (x3 : Int32) (x4 : Int32) (x5 : Int32) (x7 : Int32) (s0 : Int32) : qS l g mX12_tellsItem (d + 3) n 0 0 0 0 cvI 168 [(0, .ref x0), (2, .int x2), (3, .int x3), (4, .int x4), (5, .int x5), (7, .int x7)] [.int s0] (UX12_tellsItem_168 R x0 x2 x3 x4 x5 x7 s0) := by
  unfold UX12_tellsItem_168
  refine s_istore (lv' := [(9, .int s0), (0, .ref x0), (2, .int x2), (3, .int x3), (4, .int x4), (5, .int x5), (7, .int x7)]) dX12_tellsItem_168 (by decide) rfl ?_
  refine s_iload_n dX12_tellsItem_170 rfl ?_
  refine s_iconst (v := 4) dX12_tellsItem_171 (by decide) ?_
  refine s_icmp_ne (tgt := 185) dX12_tellsItem_172 (by decide) (fun c1 => ?_) (fun c1 => ?_)
  · refine s_aload_n dX12_tellsItem_175 rfl ?_
    refine s_iload_n dX12_tellsItem_176 rfl ?_
    refine s_iload dX12_tellsItem_177 rfl ?_
    refine s_virtI (as := [.int x2, .int s0]) (rest := []) dX12_tellsItem_179 vX12_235 (CX12_law _ _ _) (Nat.le_of_ble_eq_true rfl) ⟨Nat.le_refl _, Nat.le_refl _⟩ fun v1 => ?_
    refine s_goto (tgt := 191) dX12_tellsItem_182 (by decide) ?_
    refine s_locals [1, 2, 3, 4, 5, 6] rfl ?_
    exact UX12_tellsItem_191_ok hR x0 x2 x3 x4 x5 x7 v1
  · refine s_aload_n dX12_tellsItem_185 rfl ?_
    refine s_iload dX12_tellsItem_186 rfl ?_
    refine s_virtI (as := [.int s0]) (rest := []) dX12_tellsItem_188 vX12_238 (CX12_sign _ _) (Nat.le_of_ble_eq_true rfl) ⟨Nat.le_refl _, Nat.le_refl _⟩ fun v2 => ?_
    refine s_locals [1, 2, 3, 4, 5, 6] rfl ?_
    exact UX12_tellsItem_191_ok hR x0 x2 x3 x4 x5 x7 v2
def UX12_tellsItem_115 (R : Nat → Int32 → Int32 → Int32 → Int32 → Int32 → Int32 → qP Int32) (x0 : Nat) (x2 : Int32) (x3 : Int32) (x4 : Int32) (x5 : Int32) (x6 : Int32) (x7 : Int32) : qP Int32 :=
if x5 ≤ x7 then (
qgd (x6 = 0 ∨ x6 = 1) (qr x6)) else (
if x6 = 0 then (
qgd (x6 = 0 ∨ x6 = 1) (qr x6)) else (
qb (gR 12 x0 13) fun v1 =>
qb (aI v1 (x4 + x7)) fun v2 =>
if v2 = (46 : Int32) then (
UX12_tellsItem_168 R x0 x2 x3 x4 x5 x7 (26 : Int32)) else (
if v2 = (43 : Int32) then (
UX12_tellsItem_168 R x0 x2 x3 x4 x5 x7 (27 : Int32)) else (
UX12_tellsItem_168 R x0 x2 x3 x4 x5 x7 (v2 - (97 : Int32))))))
set_option maxRecDepth 100000 in
set_option maxHeartbeats 4000000 in
theorem UX12_tellsItem_115_ok {l : Launch} {g : qG} {d n : Nat} {R : Nat → Int32 → Int32 → Int32 → Int32 → Int32 → Int32 → qP Int32} (hR : ∀ (x0 : Nat) (x2 : Int32) (x3 : Int32) (x4 : Int32) (x5 : Int32) (x6 : Int32) (x7 : Int32), qS l g mX12_tellsItem (d + 3) n 0 0 0 0 cvI 115 [(0, .ref x0), (2, .int x2), (3, .int x3), (4, .int x4), (5, .int x5), (6, .int x6), (7, .int x7)] [] (R x0 x2 x3 x4 x5 x6 x7)) (x0 : Nat) (x2 : Int32) (x3 : Int32) (x4 : Int32) (x5 : Int32) (x6 : Int32) (x7 : Int32) : qS l g mX12_tellsItem (d + 3) n 0 0 0 0 cvI 115 [(0, .ref x0), (2, .int x2), (3, .int x3), (4, .int x4), (5, .int x5), (6, .int x6), (7, .int x7)] [] (UX12_tellsItem_115 R x0 x2 x3 x4 x5 x6 x7) := by
  unfold UX12_tellsItem_115
  refine s_iload dX12_tellsItem_115 rfl ?_
  refine s_iload dX12_tellsItem_117 rfl ?_
  refine s_icmp_ge (tgt := 207) dX12_tellsItem_119 (by decide) (fun c1 => ?_) (fun c1 => ?_)
  · refine s_iload dX12_tellsItem_207 rfl ?_
    exact s_zreturn dX12_tellsItem_209 rfl
  · refine s_iload dX12_tellsItem_122 rfl ?_
    refine s_if_eq (tgt := 207) dX12_tellsItem_124 (by decide) (fun c2 => ?_) (fun c2 => ?_)
    · refine s_iload dX12_tellsItem_207 rfl ?_
      exact s_zreturn dX12_tellsItem_209 rfl
    · refine s_aload_n dX12_tellsItem_127 rfl ?_
      refine s_gR dX12_tellsItem_128 fX12_41 fun v1 => ?_
      refine s_iload dX12_tellsItem_131 rfl ?_
      refine s_iload dX12_tellsItem_133 rfl ?_
      refine s_iadd dX12_tellsItem_135 ?_
      refine s_aI dX12_tellsItem_136 fun v2 => ?_
      refine s_istore (lv' := [(8, .int v2), (0, .ref x0), (2, .int x2), (3, .int x3), (4, .int x4), (5, .int x5), (6, .int x6), (7, .int x7)]) dX12_tellsItem_137 (by decide) rfl ?_
      refine s_iload dX12_tellsItem_139 rfl ?_
      refine s_bipush (v := 46) dX12_tellsItem_141 (by decide) ?_
      refine s_icmp_ne (tgt := 151) dX12_tellsItem_143 (by decide) (fun c3 => ?_) (fun c3 => ?_)
      · refine s_bipush (v := 26) dX12_tellsItem_146 (by decide) ?_
        refine s_goto (tgt := 168) dX12_tellsItem_148 (by decide) ?_
        refine s_locals [1, 2, 3, 4, 5, 7] rfl ?_
        exact UX12_tellsItem_168_ok hR x0 x2 x3 x4 x5 x7 (26 : Int32)
      · refine s_iload dX12_tellsItem_151 rfl ?_
        refine s_bipush (v := 43) dX12_tellsItem_153 (by decide) ?_
        refine s_icmp_ne (tgt := 163) dX12_tellsItem_155 (by decide) (fun c4 => ?_) (fun c4 => ?_)
        · refine s_bipush (v := 27) dX12_tellsItem_158 (by decide) ?_
          refine s_goto (tgt := 168) dX12_tellsItem_160 (by decide) ?_
          refine s_locals [1, 2, 3, 4, 5, 7] rfl ?_
          exact UX12_tellsItem_168_ok hR x0 x2 x3 x4 x5 x7 (27 : Int32)
        · refine s_iload dX12_tellsItem_163 rfl ?_
          refine s_bipush (v := 97) dX12_tellsItem_165 (by decide) ?_
          refine s_isub dX12_tellsItem_167 ?_
          refine s_locals [1, 2, 3, 4, 5, 7] rfl ?_
          exact UX12_tellsItem_168_ok hR x0 x2 x3 x4 x5 x7 (v2 - (97 : Int32))
def WX12_tellsItem_115 : Nat → Nat → Int32 → Int32 → Int32 → Int32 → Int32 → Int32 → qP Int32
  | 0 => fun _ _ _ _ _ _ _ => qfail
  | N + 1 => fun x0 x2 x3 x4 x5 x6 x7 => UX12_tellsItem_115 (WX12_tellsItem_115  N)  x0 x2 x3 x4 x5 x6 x7
theorem WX12_tellsItem_115_ok {l : Launch} {g : qG} {d n : Nat} : ∀ (N : Nat) (x0 : Nat) (x2 : Int32) (x3 : Int32) (x4 : Int32) (x5 : Int32) (x6 : Int32) (x7 : Int32), qS l g mX12_tellsItem (d + 3) n 0 0 0 0 cvI 115 [(0, .ref x0), (2, .int x2), (3, .int x3), (4, .int x4), (5, .int x5), (6, .int x6), (7, .int x7)] [] (WX12_tellsItem_115  N x0 x2 x3 x4 x5 x6 x7) := by
  intro N
  induction N with
  | zero => intro x0 x2 x3 x4 x5 x6 x7; exact s_fail
  | succ N ih => intro x0 x2 x3 x4 x5 x6 x7; exact UX12_tellsItem_115_ok ih  x0 x2 x3 x4 x5 x6 x7
def UX12_tellsItem_87 (x0 : Nat) (x2 : Int32) (x3 : Int32) (x4 : Int32) (x5 : Int32) : qP Int32 :=
WX12_tellsItem_115 1000000 x0 x2 x3 x4 x5 (0 : Int32) (0 : Int32)
set_option maxRecDepth 100000 in
set_option maxHeartbeats 4000000 in
theorem UX12_tellsItem_87_ok {l : Launch} {g : qG} {d n : Nat} (x0 : Nat) (x2 : Int32) (x3 : Int32) (x4 : Int32) (x5 : Int32) : qS l g mX12_tellsItem (d + 3) n 0 0 0 0 cvI 87 [(0, .ref x0), (2, .int x2), (3, .int x3), (4, .int x4), (5, .int x5)] [] (UX12_tellsItem_87 x0 x2 x3 x4 x5) := by
  unfold UX12_tellsItem_87
  refine s_iconst (v := 0) dX12_tellsItem_87 (by decide) ?_
  refine s_goto (tgt := 110) dX12_tellsItem_88 (by decide) ?_
  refine s_istore (lv' := [(6, .int (0 : Int32)), (0, .ref x0), (2, .int x2), (3, .int x3), (4, .int x4), (5, .int x5)]) dX12_tellsItem_110 (by decide) rfl ?_
  refine s_iconst (v := 0) dX12_tellsItem_112 (by decide) ?_
  refine s_istore (lv' := [(7, .int (0 : Int32)), (6, .int (0 : Int32)), (0, .ref x0), (2, .int x2), (3, .int x3), (4, .int x4), (5, .int x5)]) dX12_tellsItem_113 (by decide) rfl ?_
  refine s_locals [2, 3, 4, 5, 6, 1, 0] rfl ?_
  exact WX12_tellsItem_115_ok  1000000 x0 x2 x3 x4 x5 (0 : Int32) (0 : Int32)
def FX12_tellsItem (x0 : Nat) (x1 : Int32) : qP Int32 :=
qb (gR 12 x0 21) fun v1 =>
qb (aI v1 (((5 : Int32) * x1) + (1 : Int32))) fun v2 =>
qb (gR 12 x0 21) fun v3 =>
qb (aI v3 ((5 : Int32) * x1)) fun v4 =>
qb (gR 12 x0 21) fun v5 =>
qb (aI v5 (((5 : Int32) * x1) + (3 : Int32))) fun v6 =>
qb (gR 12 x0 21) fun v7 =>
qb (aI v7 (((5 : Int32) * x1) + (4 : Int32))) fun v8 =>
if v4 ≤ (3 : Int32) then (
if v4 = 0 then (
qb (gR 12 x0 21) fun v9 =>
qb (aI v9 (((5 : Int32) * x1) + (2 : Int32))) fun v10 =>
qb (qcl 12 x0) fun _ => qb (FX12_plot x0 v2 v10) fun v11 =>
UX12_tellsItem_253 v11) else (
if v4 = (1 : Int32) then (
qb (qcl 12 x0) fun _ => qb (FX12_shirt x0 v2) fun v12 =>
UX12_tellsItem_253 v12) else (
qb (qcl 12 x0) fun _ => qb (FX12_show x0 (v4 - (2 : Int32)) v2) fun v13 =>
UX12_tellsItem_253 v13))) else (
if v4 = (4 : Int32) then (
qb (FX12_in (v2).toInt64 (0 : Int64) (3 : Int64)) fun v14 =>
if v14 = 0 then (
UX12_tellsItem_87 x0 v2 v4 v6 v8) else (
qb (gR 12 x0 0) fun v15 =>
qb (aI v15 ((89 : Int32) + v2)) fun v16 =>
if (8 : Int32) < (v16 + v8) then (
UX12_tellsItem_87 x0 v2 v4 v6 v8) else (
WX12_tellsItem_115 1000000 x0 v2 v4 v6 v8 (1 : Int32) (0 : Int32)))) else (
qb (gR 12 x0 0) fun v17 =>
qb (aI v17 (3 : Int32)) fun v18 =>
if (60 : Int32) < (v18 + v8) then (
WX12_tellsItem_115 1000000 x0 v2 v4 v6 v8 (0 : Int32) (0 : Int32)) else (
WX12_tellsItem_115 1000000 x0 v2 v4 v6 v8 (1 : Int32) (0 : Int32))))
set_option maxRecDepth 100000 in
set_option maxHeartbeats 4000000 in
theorem FX12_tellsItem_ok {l : Launch} {g : qG} {d n : Nat} (x0 : Nat) (x1 : Int32) : qS l g mX12_tellsItem (d + 3) n 0 0 0 0 cvI 0 [(0, .ref x0), (1, .int x1)] [] (FX12_tellsItem x0 x1) := by
  unfold FX12_tellsItem
  refine s_aload_n dX12_tellsItem_0 rfl ?_
  refine s_gR dX12_tellsItem_1 fX12_44 fun v1 => ?_
  refine s_iconst (v := 5) dX12_tellsItem_4 (by decide) ?_
  refine s_iload_n dX12_tellsItem_5 rfl ?_
  refine s_imul dX12_tellsItem_6 ?_
  refine s_iconst (v := 1) dX12_tellsItem_7 (by decide) ?_
  refine s_iadd dX12_tellsItem_8 ?_
  refine s_aI dX12_tellsItem_9 fun v2 => ?_
  refine s_istore_n (lv' := [(2, .int v2), (0, .ref x0), (1, .int x1)]) dX12_tellsItem_10 (by decide) rfl ?_
  refine s_aload_n dX12_tellsItem_11 rfl ?_
  refine s_gR dX12_tellsItem_12 fX12_44 fun v3 => ?_
  refine s_iconst (v := 5) dX12_tellsItem_15 (by decide) ?_
  refine s_iload_n dX12_tellsItem_16 rfl ?_
  refine s_imul dX12_tellsItem_17 ?_
  refine s_aI dX12_tellsItem_18 fun v4 => ?_
  refine s_istore_n (lv' := [(3, .int v4), (2, .int v2), (0, .ref x0), (1, .int x1)]) dX12_tellsItem_19 (by decide) rfl ?_
  refine s_aload_n dX12_tellsItem_20 rfl ?_
  refine s_gR dX12_tellsItem_21 fX12_44 fun v5 => ?_
  refine s_iconst (v := 5) dX12_tellsItem_24 (by decide) ?_
  refine s_iload_n dX12_tellsItem_25 rfl ?_
  refine s_imul dX12_tellsItem_26 ?_
  refine s_iconst (v := 3) dX12_tellsItem_27 (by decide) ?_
  refine s_iadd dX12_tellsItem_28 ?_
  refine s_aI dX12_tellsItem_29 fun v6 => ?_
  refine s_istore (lv' := [(4, .int v6), (3, .int v4), (2, .int v2), (0, .ref x0), (1, .int x1)]) dX12_tellsItem_30 (by decide) rfl ?_
  refine s_aload_n dX12_tellsItem_32 rfl ?_
  refine s_gR dX12_tellsItem_33 fX12_44 fun v7 => ?_
  refine s_iconst (v := 5) dX12_tellsItem_36 (by decide) ?_
  refine s_iload_n dX12_tellsItem_37 rfl ?_
  refine s_imul dX12_tellsItem_38 ?_
  refine s_iconst (v := 4) dX12_tellsItem_39 (by decide) ?_
  refine s_iadd dX12_tellsItem_40 ?_
  refine s_aI dX12_tellsItem_41 fun v8 => ?_
  refine s_istore (lv' := [(5, .int v8), (4, .int v6), (3, .int v4), (2, .int v2), (0, .ref x0), (1, .int x1)]) dX12_tellsItem_42 (by decide) rfl ?_
  refine s_iload_n dX12_tellsItem_44 rfl ?_
  refine s_iconst (v := 3) dX12_tellsItem_45 (by decide) ?_
  refine s_icmp_le (tgt := 210) dX12_tellsItem_46 (by decide) (fun c1 => ?_) (fun c1 => ?_)
  · refine s_iload_n dX12_tellsItem_210 rfl ?_
    refine s_if_ne (tgt := 232) dX12_tellsItem_211 (by decide) (fun c2 => ?_) (fun c2 => ?_)
    · refine s_aload_n dX12_tellsItem_214 rfl ?_
      refine s_iload_n dX12_tellsItem_215 rfl ?_
      refine s_aload_n dX12_tellsItem_216 rfl ?_
      refine s_gR dX12_tellsItem_217 fX12_44 fun v9 => ?_
      refine s_iconst (v := 5) dX12_tellsItem_220 (by decide) ?_
      refine s_iload_n dX12_tellsItem_221 rfl ?_
      refine s_imul dX12_tellsItem_222 ?_
      refine s_iconst (v := 2) dX12_tellsItem_223 (by decide) ?_
      refine s_iadd dX12_tellsItem_224 ?_
      refine s_aI dX12_tellsItem_225 fun v10 => ?_
      refine s_virtI (as := [.int v2, .int v10]) (rest := []) dX12_tellsItem_226 vX12_241 (CX12_plot _ _ _) (Nat.le_of_ble_eq_true rfl) ⟨Nat.le_refl _, Nat.le_refl _⟩ fun v11 => ?_
      refine s_goto (tgt := 253) dX12_tellsItem_229 (by decide) ?_
      refine s_locals [] rfl ?_
      exact UX12_tellsItem_253_ok v11
    · refine s_iload_n dX12_tellsItem_232 rfl ?_
      refine s_iconst (v := 1) dX12_tellsItem_233 (by decide) ?_
      refine s_icmp_ne (tgt := 245) dX12_tellsItem_234 (by decide) (fun c3 => ?_) (fun c3 => ?_)
      · refine s_aload_n dX12_tellsItem_237 rfl ?_
        refine s_iload_n dX12_tellsItem_238 rfl ?_
        refine s_virtI (as := [.int v2]) (rest := []) dX12_tellsItem_239 vX12_244 (CX12_shirt _ _) (Nat.le_of_ble_eq_true rfl) ⟨Nat.le_refl _, Nat.le_refl _⟩ fun v12 => ?_
        refine s_goto (tgt := 253) dX12_tellsItem_242 (by decide) ?_
        refine s_locals [] rfl ?_
        exact UX12_tellsItem_253_ok v12
      · refine s_aload_n dX12_tellsItem_245 rfl ?_
        refine s_iload_n dX12_tellsItem_246 rfl ?_
        refine s_iconst (v := 2) dX12_tellsItem_247 (by decide) ?_
        refine s_isub dX12_tellsItem_248 ?_
        refine s_iload_n dX12_tellsItem_249 rfl ?_
        refine s_virtI (as := [.int (v4 - (2 : Int32)), .int v2]) (rest := []) dX12_tellsItem_250 vX12_247 (CX12_show _ _ _) (Nat.le_of_ble_eq_true rfl) ⟨Nat.le_refl _, Nat.le_refl _⟩ fun v13 => ?_
        refine s_locals [] rfl ?_
        exact UX12_tellsItem_253_ok v13
  · refine s_iload_n dX12_tellsItem_49 rfl ?_
    refine s_iconst (v := 4) dX12_tellsItem_50 (by decide) ?_
    refine s_icmp_ne (tgt := 91) dX12_tellsItem_51 (by decide) (fun c4 => ?_) (fun c4 => ?_)
    · refine s_iload_n dX12_tellsItem_54 rfl ?_
      refine s_i2l dX12_tellsItem_55 ?_
      refine s_lconst (v := 0) dX12_tellsItem_56 (by decide) ?_
      refine s_ldc2 dX12_tellsItem_57 lX12_108 ?_
      refine s_staticI (as := [.long (v2).toInt64, .long (0 : Int64), .long (3 : Int64)]) (rest := []) dX12_tellsItem_60 sX12_59 (CX12_in _ _ _) (Nat.le_of_ble_eq_true rfl) ⟨Nat.le_refl _, Nat.le_refl _⟩ fun v14 => ?_
      refine s_if_eq (tgt := 87) dX12_tellsItem_63 (by decide) (fun c5 => ?_) (fun c5 => ?_)
      · refine s_locals [4, 3, 2, 1, 0] rfl ?_
        exact UX12_tellsItem_87_ok x0 v2 v4 v6 v8
      · refine s_aload_n dX12_tellsItem_66 rfl ?_
        refine s_gR dX12_tellsItem_67 fX12_7 fun v15 => ?_
        refine s_bipush (v := 89) dX12_tellsItem_70 (by decide) ?_
        refine s_iload_n dX12_tellsItem_72 rfl ?_
        refine s_iadd dX12_tellsItem_73 ?_
        refine s_aI dX12_tellsItem_74 fun v16 => ?_
        refine s_iload dX12_tellsItem_75 rfl ?_
        refine s_iadd dX12_tellsItem_77 ?_
        refine s_bipush (v := 8) dX12_tellsItem_78 (by decide) ?_
        refine s_icmp_gt (tgt := 87) dX12_tellsItem_80 (by decide) (fun c6 => ?_) (fun c6 => ?_)
        · refine s_locals [4, 3, 2, 1, 0] rfl ?_
          exact UX12_tellsItem_87_ok x0 v2 v4 v6 v8
        · refine s_iconst (v := 1) dX12_tellsItem_83 (by decide) ?_
          refine s_goto (tgt := 110) dX12_tellsItem_84 (by decide) ?_
          refine s_istore (lv' := [(6, .int (1 : Int32)), (5, .int v8), (4, .int v6), (3, .int v4), (2, .int v2), (0, .ref x0), (1, .int x1)]) dX12_tellsItem_110 (by decide) rfl ?_
          refine s_iconst (v := 0) dX12_tellsItem_112 (by decide) ?_
          refine s_istore (lv' := [(7, .int (0 : Int32)), (6, .int (1 : Int32)), (5, .int v8), (4, .int v6), (3, .int v4), (2, .int v2), (0, .ref x0), (1, .int x1)]) dX12_tellsItem_113 (by decide) rfl ?_
          refine s_locals [6, 5, 4, 3, 2, 1, 0] rfl ?_
          exact WX12_tellsItem_115_ok  1000000 x0 v2 v4 v6 v8 (1 : Int32) (0 : Int32)
    · refine s_aload_n dX12_tellsItem_91 rfl ?_
      refine s_gR dX12_tellsItem_92 fX12_7 fun v17 => ?_
      refine s_iconst (v := 3) dX12_tellsItem_95 (by decide) ?_
      refine s_aI dX12_tellsItem_96 fun v18 => ?_
      refine s_iload dX12_tellsItem_97 rfl ?_
      refine s_iadd dX12_tellsItem_99 ?_
      refine s_bipush (v := 60) dX12_tellsItem_100 (by decide) ?_
      refine s_icmp_gt (tgt := 109) dX12_tellsItem_102 (by decide) (fun c7 => ?_) (fun c7 => ?_)
      · refine s_iconst (v := 0) dX12_tellsItem_109 (by decide) ?_
        refine s_istore (lv' := [(6, .int (0 : Int32)), (5, .int v8), (4, .int v6), (3, .int v4), (2, .int v2), (0, .ref x0), (1, .int x1)]) dX12_tellsItem_110 (by decide) rfl ?_
        refine s_iconst (v := 0) dX12_tellsItem_112 (by decide) ?_
        refine s_istore (lv' := [(7, .int (0 : Int32)), (6, .int (0 : Int32)), (5, .int v8), (4, .int v6), (3, .int v4), (2, .int v2), (0, .ref x0), (1, .int x1)]) dX12_tellsItem_113 (by decide) rfl ?_
        refine s_locals [6, 5, 4, 3, 2, 1, 0] rfl ?_
        exact WX12_tellsItem_115_ok  1000000 x0 v2 v4 v6 v8 (0 : Int32) (0 : Int32)
      · refine s_iconst (v := 1) dX12_tellsItem_105 (by decide) ?_
        refine s_goto (tgt := 110) dX12_tellsItem_106 (by decide) ?_
        refine s_istore (lv' := [(6, .int (1 : Int32)), (5, .int v8), (4, .int v6), (3, .int v4), (2, .int v2), (0, .ref x0), (1, .int x1)]) dX12_tellsItem_110 (by decide) rfl ?_
        refine s_iconst (v := 0) dX12_tellsItem_112 (by decide) ?_
        refine s_istore (lv' := [(7, .int (0 : Int32)), (6, .int (1 : Int32)), (5, .int v8), (4, .int v6), (3, .int v4), (2, .int v2), (0, .ref x0), (1, .int x1)]) dX12_tellsItem_113 (by decide) rfl ?_
        refine s_locals [6, 5, 4, 3, 2, 1, 0] rfl ?_
        exact WX12_tellsItem_115_ok  1000000 x0 v2 v4 v6 v8 (1 : Int32) (0 : Int32)
theorem CX12_tellsItem {l : Launch} {g : qG} {d : Nat} (x0 : Nat) (x1 : Int32) : qCt l g mX12_tellsItem (d + 3) 0 0 cvI [.ref x0, .int x1] (FX12_tellsItem x0 x1) := s_of pn_X12 (Nat.le_of_ble_eq_true rfl) fun n => FX12_tellsItem_ok x0 x1
def UX12_read_17 (R : Nat → Int32 → qP Int32) (K49 : Nat → qP Int32) (x0 : Nat) (x1 : Int32) : qP Int32 :=
if (253 : Int32) ≤ x1 then (
K49 x0) else (
qb (gR 12 x0 3) fun v1 =>
qb (gR 12 x0 0) fun v2 =>
qb (aI v2 x1) fun v3 =>
qb (sI v1 x1 v3) fun _ =>
qb (gR 12 x0 0) fun v4 =>
qb (sI v4 x1 (0 : Int32)) fun _ =>
R x0 (x1 + 1))
set_option maxRecDepth 100000 in
set_option maxHeartbeats 4000000 in
theorem UX12_read_17_ok {l : Launch} {g : qG} {d n : Nat} {R : Nat → Int32 → qP Int32} (hR : ∀ (x0 : Nat) (x1 : Int32), qS l g mX12_read (d + 6) n 0 0 0 0 cvI 17 [(0, .ref x0), (1, .int x1)] [] (R x0 x1)) {K49 : Nat → qP Int32} (hK49 : ∀ (x0 : Nat), qS l g mX12_read (d + 6) n 0 0 0 0 cvI 49 [(0, .ref x0)] [] (K49 x0)) (x0 : Nat) (x1 : Int32) : qS l g mX12_read (d + 6) n 0 0 0 0 cvI 17 [(0, .ref x0), (1, .int x1)] [] (UX12_read_17 R K49 x0 x1) := by
  unfold UX12_read_17
  refine s_iload_n dX12_read_17 rfl ?_
  refine s_sipush (v := 253) dX12_read_18 (by decide) ?_
  refine s_icmp_ge (tgt := 49) dX12_read_21 (by decide) (fun c1 => ?_) (fun c1 => ?_)
  · refine s_locals [0] rfl ?_
    exact hK49 x0
  · refine s_aload_n dX12_read_24 rfl ?_
    refine s_gR dX12_read_25 fX12_20 fun v1 => ?_
    refine s_iload_n dX12_read_28 rfl ?_
    refine s_aload_n dX12_read_29 rfl ?_
    refine s_gR dX12_read_30 fX12_7 fun v2 => ?_
    refine s_iload_n dX12_read_33 rfl ?_
    refine s_aI dX12_read_34 fun v3 => ?_
    refine s_sI dX12_read_35 ?_
    refine s_aload_n dX12_read_36 rfl ?_
    refine s_gR dX12_read_37 fX12_7 fun v4 => ?_
    refine s_iload_n dX12_read_40 rfl ?_
    refine s_iconst (v := 0) dX12_read_41 (by decide) ?_
    refine s_sI dX12_read_42 ?_
    refine s_iinc (lv' := [(1, .int (x1 + 1)), (0, .ref x0)]) dX12_read_43 rfl (by decide) rfl ?_
    refine s_goto (tgt := 17) dX12_read_46 (by decide) ?_
    refine s_locals [1, 0] rfl ?_
    exact hR x0 (x1 + 1)
def WX12_read_17 (K49 : Nat → qP Int32) : Nat → Nat → Int32 → qP Int32
  | 0 => fun _ _ => qfail
  | N + 1 => fun x0 x1 => UX12_read_17 (WX12_read_17 K49 N) K49 x0 x1
theorem WX12_read_17_ok {l : Launch} {g : qG} {d n : Nat} {K49 : Nat → qP Int32} (hK49 : ∀ (x0 : Nat), qS l g mX12_read (d + 6) n 0 0 0 0 cvI 49 [(0, .ref x0)] [] (K49 x0)) : ∀ (N : Nat) (x0 : Nat) (x1 : Int32), qS l g mX12_read (d + 6) n 0 0 0 0 cvI 17 [(0, .ref x0), (1, .int x1)] [] (WX12_read_17 K49 N x0 x1) := by
  intro N
  induction N with
  | zero => intro x0 x1; exact s_fail
  | succ N ih => intro x0 x1; exact UX12_read_17_ok ih hK49 x0 x1
def UX12_read_56 (R : Nat → Int32 → qP Int32) (K78 : Nat → Int32 → qP Int32) (x0 : Nat) (x1 : Int32) : qP Int32 :=
qb (gI 12 x0 22) fun v1 =>
if v1 ≤ x1 then (
K78 x0 x1) else (
qb (qcl 12 x0) fun _ => qb (FX12_tellsItem x0 x1) fun v2 =>
if v2 = 0 then (
K78 x0 x1) else (
R x0 (x1 + 1)))
set_option maxRecDepth 100000 in
set_option maxHeartbeats 4000000 in
theorem UX12_read_56_ok {l : Launch} {g : qG} {d n : Nat} {R : Nat → Int32 → qP Int32} (hR : ∀ (x0 : Nat) (x1 : Int32), qS l g mX12_read (d + 6) n 0 0 0 0 cvI 56 [(0, .ref x0), (1, .int x1)] [] (R x0 x1)) {K78 : Nat → Int32 → qP Int32} (hK78 : ∀ (x0 : Nat) (x1 : Int32), qS l g mX12_read (d + 6) n 0 0 0 0 cvI 78 [(0, .ref x0), (1, .int x1)] [] (K78 x0 x1)) (x0 : Nat) (x1 : Int32) : qS l g mX12_read (d + 6) n 0 0 0 0 cvI 56 [(0, .ref x0), (1, .int x1)] [] (UX12_read_56 R K78 x0 x1) := by
  unfold UX12_read_56
  refine s_iload_n dX12_read_56 rfl ?_
  refine s_aload_n dX12_read_57 rfl ?_
  refine s_gI dX12_read_58 fX12_222 fun v1 => ?_
  refine s_icmp_ge (tgt := 78) dX12_read_61 (by decide) (fun c1 => ?_) (fun c1 => ?_)
  · exact hK78 x0 x1
  · refine s_aload_n dX12_read_64 rfl ?_
    refine s_iload_n dX12_read_65 rfl ?_
    refine s_virtI (as := [.int x1]) (rest := []) dX12_read_66 vX12_253 (CX12_tellsItem _ _) (Nat.le_of_ble_eq_true rfl) ⟨Nat.le_refl _, Nat.le_refl _⟩ fun v2 => ?_
    refine s_if_eq (tgt := 78) dX12_read_69 (by decide) (fun c2 => ?_) (fun c2 => ?_)
    · exact hK78 x0 x1
    · refine s_iinc (lv' := [(1, .int (x1 + 1)), (0, .ref x0)]) dX12_read_72 rfl (by decide) rfl ?_
      refine s_goto (tgt := 56) dX12_read_75 (by decide) ?_
      refine s_locals [1, 0] rfl ?_
      exact hR x0 (x1 + 1)
def WX12_read_56 (K78 : Nat → Int32 → qP Int32) : Nat → Nat → Int32 → qP Int32
  | 0 => fun _ _ => qfail
  | N + 1 => fun x0 x1 => UX12_read_56 (WX12_read_56 K78 N) K78 x0 x1
theorem WX12_read_56_ok {l : Launch} {g : qG} {d n : Nat} {K78 : Nat → Int32 → qP Int32} (hK78 : ∀ (x0 : Nat) (x1 : Int32), qS l g mX12_read (d + 6) n 0 0 0 0 cvI 78 [(0, .ref x0), (1, .int x1)] [] (K78 x0 x1)) : ∀ (N : Nat) (x0 : Nat) (x1 : Int32), qS l g mX12_read (d + 6) n 0 0 0 0 cvI 56 [(0, .ref x0), (1, .int x1)] [] (WX12_read_56 K78 N x0 x1) := by
  intro N
  induction N with
  | zero => intro x0 x1; exact s_fail
  | succ N ih => intro x0 x1; exact UX12_read_56_ok ih hK78 x0 x1
def UX12_read_98 (R : Nat → Int32 → Int32 → qP Int32) (x0 : Nat) (x1 : Int32) (x2 : Int32) : qP Int32 :=
if (253 : Int32) ≤ x2 then (
qr ((-1000 : Int32) - x1)) else (
qb (gR 12 x0 0) fun v1 =>
qb (gR 12 x0 3) fun v2 =>
qb (aI v2 x2) fun v3 =>
qb (sI v1 x2 v3) fun _ =>
R x0 x1 (x2 + 1))
set_option maxRecDepth 100000 in
set_option maxHeartbeats 4000000 in
theorem UX12_read_98_ok {l : Launch} {g : qG} {d n : Nat} {R : Nat → Int32 → Int32 → qP Int32} (hR : ∀ (x0 : Nat) (x1 : Int32) (x2 : Int32), qS l g mX12_read (d + 6) n 0 0 0 0 cvI 98 [(0, .ref x0), (1, .int x1), (2, .int x2)] [] (R x0 x1 x2)) (x0 : Nat) (x1 : Int32) (x2 : Int32) : qS l g mX12_read (d + 6) n 0 0 0 0 cvI 98 [(0, .ref x0), (1, .int x1), (2, .int x2)] [] (UX12_read_98 R x0 x1 x2) := by
  unfold UX12_read_98
  refine s_iload_n dX12_read_98 rfl ?_
  refine s_sipush (v := 253) dX12_read_99 (by decide) ?_
  refine s_icmp_ge (tgt := 123) dX12_read_102 (by decide) (fun c1 => ?_) (fun c1 => ?_)
  · refine s_sipush (v := -1000) dX12_read_123 (by decide) ?_
    refine s_iload_n dX12_read_126 rfl ?_
    refine s_isub dX12_read_127 ?_
    exact s_ireturn dX12_read_128 rfl rfl
  · refine s_aload_n dX12_read_105 rfl ?_
    refine s_gR dX12_read_106 fX12_7 fun v1 => ?_
    refine s_iload_n dX12_read_109 rfl ?_
    refine s_aload_n dX12_read_110 rfl ?_
    refine s_gR dX12_read_111 fX12_20 fun v2 => ?_
    refine s_iload_n dX12_read_114 rfl ?_
    refine s_aI dX12_read_115 fun v3 => ?_
    refine s_sI dX12_read_116 ?_
    refine s_iinc (lv' := [(2, .int (x2 + 1)), (0, .ref x0), (1, .int x1)]) dX12_read_117 rfl (by decide) rfl ?_
    refine s_goto (tgt := 98) dX12_read_120 (by decide) ?_
    refine s_locals [1, 2, 0] rfl ?_
    exact hR x0 x1 (x2 + 1)
def WX12_read_98 : Nat → Nat → Int32 → Int32 → qP Int32
  | 0 => fun _ _ _ => qfail
  | N + 1 => fun x0 x1 x2 => UX12_read_98 (WX12_read_98  N)  x0 x1 x2
theorem WX12_read_98_ok {l : Launch} {g : qG} {d n : Nat} : ∀ (N : Nat) (x0 : Nat) (x1 : Int32) (x2 : Int32), qS l g mX12_read (d + 6) n 0 0 0 0 cvI 98 [(0, .ref x0), (1, .int x1), (2, .int x2)] [] (WX12_read_98  N x0 x1 x2) := by
  intro N
  induction N with
  | zero => intro x0 x1 x2; exact s_fail
  | succ N ih => intro x0 x1 x2; exact UX12_read_98_ok ih  x0 x1 x2
def UX12_read_78 (x0 : Nat) (x1 : Int32) : qP Int32 :=
qb (pV 12 x0 5 (.int (0 : Int32))) fun _ =>
qb (gI 12 x0 22) fun v1 =>
if x1 = v1 then (
qb (gI 12 x0 22) fun v2 =>
qr v2) else (
WX12_read_98 1000000 x0 x1 (0 : Int32))
set_option maxRecDepth 100000 in
set_option maxHeartbeats 4000000 in
theorem UX12_read_78_ok {l : Launch} {g : qG} {d n : Nat} (x0 : Nat) (x1 : Int32) : qS l g mX12_read (d + 6) n 0 0 0 0 cvI 78 [(0, .ref x0), (1, .int x1)] [] (UX12_read_78 x0 x1) := by
  unfold UX12_read_78
  refine s_aload_n dX12_read_78 rfl ?_
  refine s_iconst (v := 0) dX12_read_79 (by decide) ?_
  refine s_put dX12_read_80 fX12_51 (by decide) (by decide) ?_
  refine s_iload_n dX12_read_83 rfl ?_
  refine s_aload_n dX12_read_84 rfl ?_
  refine s_gI dX12_read_85 fX12_222 fun v1 => ?_
  refine s_icmp_ne (tgt := 96) dX12_read_88 (by decide) (fun c1 => ?_) (fun c1 => ?_)
  · refine s_aload_n dX12_read_91 rfl ?_
    refine s_gI dX12_read_92 fX12_222 fun v2 => ?_
    exact s_ireturn dX12_read_95 rfl rfl
  · refine s_iconst (v := 0) dX12_read_96 (by decide) ?_
    refine s_istore_n (lv' := [(2, .int (0 : Int32)), (0, .ref x0), (1, .int x1)]) dX12_read_97 (by decide) rfl ?_
    refine s_locals [1, 2, 0] rfl ?_
    exact WX12_read_98_ok  1000000 x0 x1 (0 : Int32)
def UX12_read_49 (x0 : Nat) : qP Int32 :=
qb (pV 12 x0 5 (.int (1 : Int32))) fun _ =>
WX12_read_56 (UX12_read_78) 1000000 x0 (0 : Int32)
set_option maxRecDepth 100000 in
set_option maxHeartbeats 4000000 in
theorem UX12_read_49_ok {l : Launch} {g : qG} {d n : Nat} (x0 : Nat) : qS l g mX12_read (d + 6) n 0 0 0 0 cvI 49 [(0, .ref x0)] [] (UX12_read_49 x0) := by
  unfold UX12_read_49
  refine s_aload_n dX12_read_49 rfl ?_
  refine s_iconst (v := 1) dX12_read_50 (by decide) ?_
  refine s_put dX12_read_51 fX12_51 (by decide) (by decide) ?_
  refine s_iconst (v := 0) dX12_read_54 (by decide) ?_
  refine s_istore_n (lv' := [(1, .int (0 : Int32)), (0, .ref x0)]) dX12_read_55 (by decide) rfl ?_
  refine s_locals [1, 0] rfl ?_
  exact WX12_read_56_ok (UX12_read_78_ok) 1000000 x0 (0 : Int32)
def FX12_read (x0 : Nat) : qP Int32 :=
qb (qcl 12 x0) fun _ => qb (FX12_reads x0) fun v1 =>
if v1 = 0 then (
qb (gI 12 x0 16) fun v2 =>
qr ((-10 : Int32) - v2)) else (
WX12_read_17 (UX12_read_49) 1000000 x0 (0 : Int32))
set_option maxRecDepth 100000 in
set_option maxHeartbeats 4000000 in
theorem FX12_read_ok {l : Launch} {g : qG} {d n : Nat} (x0 : Nat) : qS l g mX12_read (d + 6) n 0 0 0 0 cvI 0 [(0, .ref x0)] [] (FX12_read x0) := by
  unfold FX12_read
  refine s_aload_n dX12_read_0 rfl ?_
  refine s_virtI (as := []) (rest := []) dX12_read_1 vX12_250 (CX12_reads _) (Nat.le_of_ble_eq_true rfl) ⟨Nat.le_refl _, Nat.le_refl _⟩ fun v1 => ?_
  refine s_if_ne (tgt := 15) dX12_read_4 (by decide) (fun c1 => ?_) (fun c1 => ?_)
  · refine s_bipush (v := -10) dX12_read_7 (by decide) ?_
    refine s_aload_n dX12_read_9 rfl ?_
    refine s_gI dX12_read_10 fX12_185 fun v2 => ?_
    refine s_isub dX12_read_13 ?_
    exact s_ireturn dX12_read_14 rfl rfl
  · refine s_iconst (v := 0) dX12_read_15 (by decide) ?_
    refine s_istore_n (lv' := [(1, .int (0 : Int32)), (0, .ref x0)]) dX12_read_16 (by decide) rfl ?_
    refine s_locals [1, 0] rfl ?_
    exact WX12_read_17_ok (UX12_read_49_ok) 1000000 x0 (0 : Int32)
theorem CX12_read {l : Launch} {g : qG} {d : Nat} (x0 : Nat) : qCt l g mX12_read (d + 6) 0 0 cvI [.ref x0] (FX12_read x0) := s_of pn_X12 (Nat.le_of_ble_eq_true rfl) fun n => FX12_read_ok x0
def FX12_part (x0 : Nat) (x1 : Int32) : qP Int64 :=
if x1 = 0 then (
qb (gL 12 x0 6) fun v1 =>
qr v1) else (
if x1 = (1 : Int32) then (
qb (gL 12 x0 7) fun v2 =>
qr v2) else (
qb (qcl 12 x0) fun _ => qb (FX12_bad x0) fun v3 =>
qr (v3).toInt64))
set_option maxRecDepth 100000 in
set_option maxHeartbeats 4000000 in
theorem FX12_part_ok {l : Launch} {g : qG} {d n : Nat} (x0 : Nat) (x1 : Int32) : qS l g mX12_part (d + 2) n 0 0 0 0 cvL 0 [(0, .ref x0), (1, .int x1)] [] (FX12_part x0 x1) := by
  unfold FX12_part
  refine s_iload_n dX12_part_0 rfl ?_
  refine s_if_ne (tgt := 11) dX12_part_1 (by decide) (fun c1 => ?_) (fun c1 => ?_)
  · refine s_aload_n dX12_part_4 rfl ?_
    refine s_gL dX12_part_5 fX12_137 fun v1 => ?_
    refine s_goto (tgt := 28) dX12_part_8 (by decide) ?_
    exact s_lreturn dX12_part_28 rfl
  · refine s_iload_n dX12_part_11 rfl ?_
    refine s_iconst (v := 1) dX12_part_12 (by decide) ?_
    refine s_icmp_ne (tgt := 23) dX12_part_13 (by decide) (fun c2 => ?_) (fun c2 => ?_)
    · refine s_aload_n dX12_part_16 rfl ?_
      refine s_gL dX12_part_17 fX12_47 fun v2 => ?_
      refine s_goto (tgt := 28) dX12_part_20 (by decide) ?_
      exact s_lreturn dX12_part_28 rfl
    · refine s_aload_n dX12_part_23 rfl ?_
      refine s_virtI (as := []) (rest := []) dX12_part_24 vX12_74 (CX12_bad _) (Nat.le_of_ble_eq_true rfl) ⟨Nat.le_refl _, Nat.le_refl _⟩ fun v3 => ?_
      refine s_i2l dX12_part_27 ?_
      exact s_lreturn dX12_part_28 rfl
theorem CX12_part {l : Launch} {g : qG} {d : Nat} (x0 : Nat) (x1 : Int32) : qCt l g mX12_part (d + 2) 0 0 cvL [.ref x0, .int x1] (FX12_part x0 x1) := s_of pn_X12 (Nat.le_of_ble_eq_true rfl) fun n => FX12_part_ok x0 x1
def UX12_image_17 (R : Nat → Int32 → Int32 → qP Int32) (K48 : Nat → Int32 → qP Int32) (x0 : Nat) (x1 : Int32) (x2 : Int32) : qP Int32 :=
if (253 : Int32) ≤ x2 then (
K48 x0 x1) else (
qb (gR 12 x0 1) fun v1 =>
qb (gR 12 x0 0) fun v2 =>
qb (aI v2 x2) fun v3 =>
qb (sI v1 (((253 : Int32) * x1) + x2) v3) fun _ =>
R x0 x1 (x2 + 1))
set_option maxRecDepth 100000 in
set_option maxHeartbeats 4000000 in
theorem UX12_image_17_ok {l : Launch} {g : qG} {d n : Nat} {R : Nat → Int32 → Int32 → qP Int32} (hR : ∀ (x0 : Nat) (x1 : Int32) (x2 : Int32), qS l g mX12_image (d + 2) n 0 0 0 0 cvI 17 [(0, .ref x0), (1, .int x1), (2, .int x2)] [] (R x0 x1 x2)) {K48 : Nat → Int32 → qP Int32} (hK48 : ∀ (x0 : Nat) (x1 : Int32), qS l g mX12_image (d + 2) n 0 0 0 0 cvI 48 [(0, .ref x0), (1, .int x1)] [] (K48 x0 x1)) (x0 : Nat) (x1 : Int32) (x2 : Int32) : qS l g mX12_image (d + 2) n 0 0 0 0 cvI 17 [(0, .ref x0), (1, .int x1), (2, .int x2)] [] (UX12_image_17 R K48 x0 x1 x2) := by
  unfold UX12_image_17
  refine s_iload_n dX12_image_17 rfl ?_
  refine s_sipush (v := 253) dX12_image_18 (by decide) ?_
  refine s_icmp_ge (tgt := 48) dX12_image_21 (by decide) (fun c1 => ?_) (fun c1 => ?_)
  · refine s_locals [0, 1] rfl ?_
    exact hK48 x0 x1
  · refine s_aload_n dX12_image_24 rfl ?_
    refine s_gR dX12_image_25 fX12_13 fun v1 => ?_
    refine s_sipush (v := 253) dX12_image_28 (by decide) ?_
    refine s_iload_n dX12_image_31 rfl ?_
    refine s_imul dX12_image_32 ?_
    refine s_iload_n dX12_image_33 rfl ?_
    refine s_iadd dX12_image_34 ?_
    refine s_aload_n dX12_image_35 rfl ?_
    refine s_gR dX12_image_36 fX12_7 fun v2 => ?_
    refine s_iload_n dX12_image_39 rfl ?_
    refine s_aI dX12_image_40 fun v3 => ?_
    refine s_sI dX12_image_41 ?_
    refine s_iinc (lv' := [(2, .int (x2 + 1)), (0, .ref x0), (1, .int x1)]) dX12_image_42 rfl (by decide) rfl ?_
    refine s_goto (tgt := 17) dX12_image_45 (by decide) ?_
    refine s_locals [1, 2, 0] rfl ?_
    exact hR x0 x1 (x2 + 1)
def WX12_image_17 (K48 : Nat → Int32 → qP Int32) : Nat → Nat → Int32 → Int32 → qP Int32
  | 0 => fun _ _ _ => qfail
  | N + 1 => fun x0 x1 x2 => UX12_image_17 (WX12_image_17 K48 N) K48 x0 x1 x2
theorem WX12_image_17_ok {l : Launch} {g : qG} {d n : Nat} {K48 : Nat → Int32 → qP Int32} (hK48 : ∀ (x0 : Nat) (x1 : Int32), qS l g mX12_image (d + 2) n 0 0 0 0 cvI 48 [(0, .ref x0), (1, .int x1)] [] (K48 x0 x1)) : ∀ (N : Nat) (x0 : Nat) (x1 : Int32) (x2 : Int32), qS l g mX12_image (d + 2) n 0 0 0 0 cvI 17 [(0, .ref x0), (1, .int x1), (2, .int x2)] [] (WX12_image_17 K48 N x0 x1 x2) := by
  intro N
  induction N with
  | zero => intro x0 x1 x2; exact s_fail
  | succ N ih => intro x0 x1 x2; exact UX12_image_17_ok ih hK48 x0 x1 x2
def UX12_image_48 (x0 : Nat) (x1 : Int32) : qP Int32 :=
qb (gR 12 x0 2) fun v1 =>
qb (sZ v1 x1 (1 : Int32)) fun _ =>
qr (1 : Int32)
set_option maxRecDepth 100000 in
set_option maxHeartbeats 4000000 in
theorem UX12_image_48_ok {l : Launch} {g : qG} {d n : Nat} (x0 : Nat) (x1 : Int32) : qS l g mX12_image (d + 2) n 0 0 0 0 cvI 48 [(0, .ref x0), (1, .int x1)] [] (UX12_image_48 x0 x1) := by
  unfold UX12_image_48
  refine s_aload_n dX12_image_48 rfl ?_
  refine s_gR dX12_image_49 fX12_16 fun v1 => ?_
  refine s_iload_n dX12_image_52 rfl ?_
  refine s_iconst (v := 1) dX12_image_53 (by decide) ?_
  refine s_sZ dX12_image_54 ?_
  refine s_iconst (v := 1) dX12_image_55 (by decide) ?_
  exact s_ireturn dX12_image_56 rfl rfl
def FX12_image (x0 : Nat) (x1 : Int32) : qP Int32 :=
qb (FX12_in (x1).toInt64 (0 : Int64) (1 : Int64)) fun v1 =>
if v1 = 0 then (
qb (qcl 12 x0) fun _ => qb (FX12_bad x0) fun v2 =>
qr v2) else (
WX12_image_17 (UX12_image_48) 1000000 x0 x1 (0 : Int32))
set_option maxRecDepth 100000 in
set_option maxHeartbeats 4000000 in
theorem FX12_image_ok {l : Launch} {g : qG} {d n : Nat} (x0 : Nat) (x1 : Int32) : qS l g mX12_image (d + 2) n 0 0 0 0 cvI 0 [(0, .ref x0), (1, .int x1)] [] (FX12_image x0 x1) := by
  unfold FX12_image
  refine s_iload_n dX12_image_0 rfl ?_
  refine s_i2l dX12_image_1 ?_
  refine s_lconst (v := 0) dX12_image_2 (by decide) ?_
  refine s_lconst (v := 1) dX12_image_3 (by decide) ?_
  refine s_staticI (as := [.long (x1).toInt64, .long (0 : Int64), .long (1 : Int64)]) (rest := []) dX12_image_4 sX12_59 (CX12_in _ _ _) (Nat.le_of_ble_eq_true rfl) ⟨Nat.le_refl _, Nat.le_refl _⟩ fun v1 => ?_
  refine s_if_ne (tgt := 15) dX12_image_7 (by decide) (fun c1 => ?_) (fun c1 => ?_)
  · refine s_aload_n dX12_image_10 rfl ?_
    refine s_virtI (as := []) (rest := []) dX12_image_11 vX12_74 (CX12_bad _) (Nat.le_of_ble_eq_true rfl) ⟨Nat.le_refl _, Nat.le_refl _⟩ fun v2 => ?_
    exact s_ireturn dX12_image_14 rfl rfl
  · refine s_iconst (v := 0) dX12_image_15 (by decide) ?_
    refine s_istore_n (lv' := [(2, .int (0 : Int32)), (0, .ref x0), (1, .int x1)]) dX12_image_16 (by decide) rfl ?_
    refine s_locals [1, 2, 0] rfl ?_
    exact WX12_image_17_ok (UX12_image_48_ok) 1000000 x0 x1 (0 : Int32)
theorem CX12_image {l : Launch} {g : qG} {d : Nat} (x0 : Nat) (x1 : Int32) : qCt l g mX12_image (d + 2) 0 0 cvI [.ref x0, .int x1] (FX12_image x0 x1) := s_of pn_X12 (Nat.le_of_ble_eq_true rfl) fun n => FX12_image_ok x0 x1
def UX12_from_31 (R : Nat → Int32 → Int32 → qP Int32) (x0 : Nat) (x1 : Int32) (x2 : Int32) : qP Int32 :=
if (253 : Int32) ≤ x2 then (
qr (1 : Int32)) else (
qb (gR 12 x0 0) fun v1 =>
qb (gR 12 x0 1) fun v2 =>
qb (aI v2 (((253 : Int32) * x1) + x2)) fun v3 =>
qb (sI v1 x2 v3) fun _ =>
R x0 x1 (x2 + 1))
set_option maxRecDepth 100000 in
set_option maxHeartbeats 4000000 in
theorem UX12_from_31_ok {l : Launch} {g : qG} {d n : Nat} {R : Nat → Int32 → Int32 → qP Int32} (hR : ∀ (x0 : Nat) (x1 : Int32) (x2 : Int32), qS l g mX12_from (d + 2) n 0 0 0 0 cvI 31 [(0, .ref x0), (1, .int x1), (2, .int x2)] [] (R x0 x1 x2)) (x0 : Nat) (x1 : Int32) (x2 : Int32) : qS l g mX12_from (d + 2) n 0 0 0 0 cvI 31 [(0, .ref x0), (1, .int x1), (2, .int x2)] [] (UX12_from_31 R x0 x1 x2) := by
  unfold UX12_from_31
  refine s_iload_n dX12_from_31 rfl ?_
  refine s_sipush (v := 253) dX12_from_32 (by decide) ?_
  refine s_icmp_ge (tgt := 62) dX12_from_35 (by decide) (fun c1 => ?_) (fun c1 => ?_)
  · refine s_iconst (v := 1) dX12_from_62 (by decide) ?_
    exact s_ireturn dX12_from_63 rfl rfl
  · refine s_aload_n dX12_from_38 rfl ?_
    refine s_gR dX12_from_39 fX12_7 fun v1 => ?_
    refine s_iload_n dX12_from_42 rfl ?_
    refine s_aload_n dX12_from_43 rfl ?_
    refine s_gR dX12_from_44 fX12_13 fun v2 => ?_
    refine s_sipush (v := 253) dX12_from_47 (by decide) ?_
    refine s_iload_n dX12_from_50 rfl ?_
    refine s_imul dX12_from_51 ?_
    refine s_iload_n dX12_from_52 rfl ?_
    refine s_iadd dX12_from_53 ?_
    refine s_aI dX12_from_54 fun v3 => ?_
    refine s_sI dX12_from_55 ?_
    refine s_iinc (lv' := [(2, .int (x2 + 1)), (0, .ref x0), (1, .int x1)]) dX12_from_56 rfl (by decide) rfl ?_
    refine s_goto (tgt := 31) dX12_from_59 (by decide) ?_
    refine s_locals [1, 2, 0] rfl ?_
    exact hR x0 x1 (x2 + 1)
def WX12_from_31 : Nat → Nat → Int32 → Int32 → qP Int32
  | 0 => fun _ _ _ => qfail
  | N + 1 => fun x0 x1 x2 => UX12_from_31 (WX12_from_31  N)  x0 x1 x2
theorem WX12_from_31_ok {l : Launch} {g : qG} {d n : Nat} : ∀ (N : Nat) (x0 : Nat) (x1 : Int32) (x2 : Int32), qS l g mX12_from (d + 2) n 0 0 0 0 cvI 31 [(0, .ref x0), (1, .int x1), (2, .int x2)] [] (WX12_from_31  N x0 x1 x2) := by
  intro N
  induction N with
  | zero => intro x0 x1 x2; exact s_fail
  | succ N ih => intro x0 x1 x2; exact UX12_from_31_ok ih  x0 x1 x2
def FX12_from (x0 : Nat) (x1 : Int32) : qP Int32 :=
qb (FX12_in (x1).toInt64 (0 : Int64) (1 : Int64)) fun v1 =>
if v1 = 0 then (
qb (qcl 12 x0) fun _ => qb (FX12_bad x0) fun v2 =>
qr v2) else (
qb (gR 12 x0 2) fun v3 =>
qb (aZ v3 x1) fun v4 =>
if v4 = 0 then (
qb (qcl 12 x0) fun _ => qb (FX12_no x0) fun v5 =>
qr v5) else (
WX12_from_31 1000000 x0 x1 (0 : Int32)))
set_option maxRecDepth 100000 in
set_option maxHeartbeats 4000000 in
theorem FX12_from_ok {l : Launch} {g : qG} {d n : Nat} (x0 : Nat) (x1 : Int32) : qS l g mX12_from (d + 2) n 0 0 0 0 cvI 0 [(0, .ref x0), (1, .int x1)] [] (FX12_from x0 x1) := by
  unfold FX12_from
  refine s_iload_n dX12_from_0 rfl ?_
  refine s_i2l dX12_from_1 ?_
  refine s_lconst (v := 0) dX12_from_2 (by decide) ?_
  refine s_lconst (v := 1) dX12_from_3 (by decide) ?_
  refine s_staticI (as := [.long (x1).toInt64, .long (0 : Int64), .long (1 : Int64)]) (rest := []) dX12_from_4 sX12_59 (CX12_in _ _ _) (Nat.le_of_ble_eq_true rfl) ⟨Nat.le_refl _, Nat.le_refl _⟩ fun v1 => ?_
  refine s_if_ne (tgt := 15) dX12_from_7 (by decide) (fun c1 => ?_) (fun c1 => ?_)
  · refine s_aload_n dX12_from_10 rfl ?_
    refine s_virtI (as := []) (rest := []) dX12_from_11 vX12_74 (CX12_bad _) (Nat.le_of_ble_eq_true rfl) ⟨Nat.le_refl _, Nat.le_refl _⟩ fun v2 => ?_
    exact s_ireturn dX12_from_14 rfl rfl
  · refine s_aload_n dX12_from_15 rfl ?_
    refine s_gR dX12_from_16 fX12_16 fun v3 => ?_
    refine s_iload_n dX12_from_19 rfl ?_
    refine s_aZ dX12_from_20 fun v4 => ?_
    refine s_if_ne (tgt := 29) dX12_from_21 (by decide) (fun c2 => ?_) (fun c2 => ?_)
    · refine s_aload_n dX12_from_24 rfl ?_
      refine s_virtI (as := []) (rest := []) dX12_from_25 vX12_105 (CX12_no _) (Nat.le_of_ble_eq_true rfl) ⟨Nat.le_refl _, Nat.le_refl _⟩ fun v5 => ?_
      exact s_ireturn dX12_from_28 rfl rfl
    · refine s_iconst (v := 0) dX12_from_29 (by decide) ?_
      refine s_istore_n (lv' := [(2, .int (0 : Int32)), (0, .ref x0), (1, .int x1)]) dX12_from_30 (by decide) rfl ?_
      refine s_locals [1, 2, 0] rfl ?_
      exact WX12_from_31_ok  1000000 x0 x1 (0 : Int32)
theorem CX12_from {l : Launch} {g : qG} {d : Nat} (x0 : Nat) (x1 : Int32) : qCt l g mX12_from (d + 2) 0 0 cvI [.ref x0, .int x1] (FX12_from x0 x1) := s_of pn_X12 (Nat.le_of_ble_eq_true rfl) fun n => FX12_from_ok x0 x1
def FX12_status (x0 : Nat) (x1 : Int32) : qP Int32 :=
qb (FX12_in (x1).toInt64 (0 : Int64) (2 : Int64)) fun v1 =>
if v1 = 0 then (
qb (qcl 12 x0) fun _ => qb (FX12_refuses x0 (0 : Int32) (-1 : Int32)) fun v2 =>
qr v2) else (
qb (gR 12 x0 4) fun v3 =>
qb (aI v3 x1) fun v4 =>
qr v4)
set_option maxRecDepth 100000 in
set_option maxHeartbeats 4000000 in
theorem FX12_status_ok {l : Launch} {g : qG} {d n : Nat} (x0 : Nat) (x1 : Int32) : qS l g mX12_status (d + 1) n 0 0 0 0 cvI 0 [(0, .ref x0), (1, .int x1)] [] (FX12_status x0 x1) := by
  unfold FX12_status
  refine s_iload_n dX12_status_0 rfl ?_
  refine s_i2l dX12_status_1 ?_
  refine s_lconst (v := 0) dX12_status_2 (by decide) ?_
  refine s_ldc2 dX12_status_3 lX12_256 ?_
  refine s_staticI (as := [.long (x1).toInt64, .long (0 : Int64), .long (2 : Int64)]) (rest := []) dX12_status_6 sX12_59 (CX12_in _ _ _) (Nat.le_of_ble_eq_true rfl) ⟨Nat.le_refl _, Nat.le_refl _⟩ fun v1 => ?_
  refine s_if_eq (tgt := 21) dX12_status_9 (by decide) (fun c1 => ?_) (fun c1 => ?_)
  · refine s_aload_n dX12_status_21 rfl ?_
    refine s_iconst (v := 0) dX12_status_22 (by decide) ?_
    refine s_iconst (v := -1) dX12_status_23 (by decide) ?_
    refine s_virtI (as := [.int (0 : Int32), .int (-1 : Int32)]) (rest := []) dX12_status_24 vX12_55 (CX12_refuses _ _ _) (Nat.le_of_ble_eq_true rfl) ⟨Nat.le_refl _, Nat.le_refl _⟩ fun v2 => ?_
    exact s_ireturn dX12_status_27 rfl rfl
  · refine s_aload_n dX12_status_12 rfl ?_
    refine s_gR dX12_status_13 fX12_23 fun v3 => ?_
    refine s_iload_n dX12_status_16 rfl ?_
    refine s_aI dX12_status_17 fun v4 => ?_
    refine s_goto (tgt := 27) dX12_status_18 (by decide) ?_
    exact s_ireturn dX12_status_27 rfl rfl
theorem CX12_status {l : Launch} {g : qG} {d : Nat} (x0 : Nat) (x1 : Int32) : qCt l g mX12_status (d + 1) 0 0 cvI [.ref x0, .int x1] (FX12_status x0 x1) := s_of pn_X12 (Nat.le_of_ble_eq_true rfl) fun n => FX12_status_ok x0 x1
def UX12_countOf_47 (x0 : Nat) (x1 : Int32) (s0 : Int32) : qP Int32 :=
if (2 : Int32) ≤ x1 then (
if x1 = (2 : Int32) then (
qb (gR 12 x0 0) fun v1 =>
qb (aI v1 (6 : Int32)) fun v2 =>
qr v2) else (
if x1 = (3 : Int32) then (
qb (gR 12 x0 0) fun v3 =>
qb (aI v3 (2 : Int32)) fun v4 =>
qr v4) else (
qr s0))) else (
qb (gR 12 x0 0) fun v5 =>
qb (aI v5 x1) fun v6 =>
qr v6)
set_option maxRecDepth 100000 in
set_option maxHeartbeats 4000000 in
theorem UX12_countOf_47_ok {l : Launch} {g : qG} {d n : Nat} (x0 : Nat) (x1 : Int32) (s0 : Int32) : qS l g mX12_countOf d n 0 0 0 0 cvI 47 [(0, .ref x0), (1, .int x1)] [.int s0] (UX12_countOf_47 x0 x1 s0) := by
  unfold UX12_countOf_47
  refine s_istore_n (lv' := [(2, .int s0), (0, .ref x0), (1, .int x1)]) dX12_countOf_47 (by decide) rfl ?_
  refine s_iload_n dX12_countOf_48 rfl ?_
  refine s_iconst (v := 2) dX12_countOf_49 (by decide) ?_
  refine s_icmp_ge (tgt := 62) dX12_countOf_50 (by decide) (fun c1 => ?_) (fun c1 => ?_)
  · refine s_iload_n dX12_countOf_62 rfl ?_
    refine s_iconst (v := 2) dX12_countOf_63 (by decide) ?_
    refine s_icmp_ne (tgt := 77) dX12_countOf_64 (by decide) (fun c2 => ?_) (fun c2 => ?_)
    · refine s_aload_n dX12_countOf_67 rfl ?_
      refine s_gR dX12_countOf_68 fX12_7 fun v1 => ?_
      refine s_bipush (v := 6) dX12_countOf_71 (by decide) ?_
      refine s_aI dX12_countOf_73 fun v2 => ?_
      refine s_goto (tgt := 92) dX12_countOf_74 (by decide) ?_
      exact s_ireturn dX12_countOf_92 rfl rfl
    · refine s_iload_n dX12_countOf_77 rfl ?_
      refine s_iconst (v := 3) dX12_countOf_78 (by decide) ?_
      refine s_icmp_ne (tgt := 91) dX12_countOf_79 (by decide) (fun c3 => ?_) (fun c3 => ?_)
      · refine s_aload_n dX12_countOf_82 rfl ?_
        refine s_gR dX12_countOf_83 fX12_7 fun v3 => ?_
        refine s_iconst (v := 2) dX12_countOf_86 (by decide) ?_
        refine s_aI dX12_countOf_87 fun v4 => ?_
        refine s_goto (tgt := 92) dX12_countOf_88 (by decide) ?_
        exact s_ireturn dX12_countOf_92 rfl rfl
      · refine s_iload_n dX12_countOf_91 rfl ?_
        exact s_ireturn dX12_countOf_92 rfl rfl
  · refine s_aload_n dX12_countOf_53 rfl ?_
    refine s_gR dX12_countOf_54 fX12_7 fun v5 => ?_
    refine s_iload_n dX12_countOf_57 rfl ?_
    refine s_aI dX12_countOf_58 fun v6 => ?_
    refine s_goto (tgt := 92) dX12_countOf_59 (by decide) ?_
    exact s_ireturn dX12_countOf_92 rfl rfl
def FX12_countOf (x0 : Nat) (x1 : Int32) : qP Int32 :=
if x1 = (4 : Int32) then (
qb (gR 12 x0 0) fun v1 =>
qb (aI v1 (3 : Int32)) fun v2 =>
UX12_countOf_47 x0 x1 v2) else (
if x1 = (5 : Int32) then (
qb (gR 12 x0 0) fun v3 =>
qb (aI v3 (4 : Int32)) fun v4 =>
UX12_countOf_47 x0 x1 v4) else (
if x1 = (6 : Int32) then (
qb (gR 12 x0 0) fun v5 =>
qb (aI v5 (5 : Int32)) fun v6 =>
UX12_countOf_47 x0 x1 v6) else (
qb (gI 12 x0 14) fun v7 =>
UX12_countOf_47 x0 x1 v7)))
set_option maxRecDepth 100000 in
set_option maxHeartbeats 4000000 in
theorem FX12_countOf_ok {l : Launch} {g : qG} {d n : Nat} (x0 : Nat) (x1 : Int32) : qS l g mX12_countOf d n 0 0 0 0 cvI 0 [(0, .ref x0), (1, .int x1)] [] (FX12_countOf x0 x1) := by
  unfold FX12_countOf
  refine s_iload_n dX12_countOf_0 rfl ?_
  refine s_iconst (v := 4) dX12_countOf_1 (by decide) ?_
  refine s_icmp_ne (tgt := 14) dX12_countOf_2 (by decide) (fun c1 => ?_) (fun c1 => ?_)
  · refine s_aload_n dX12_countOf_5 rfl ?_
    refine s_gR dX12_countOf_6 fX12_7 fun v1 => ?_
    refine s_iconst (v := 3) dX12_countOf_9 (by decide) ?_
    refine s_aI dX12_countOf_10 fun v2 => ?_
    refine s_goto (tgt := 47) dX12_countOf_11 (by decide) ?_
    exact UX12_countOf_47_ok x0 x1 v2
  · refine s_iload_n dX12_countOf_14 rfl ?_
    refine s_iconst (v := 5) dX12_countOf_15 (by decide) ?_
    refine s_icmp_ne (tgt := 28) dX12_countOf_16 (by decide) (fun c2 => ?_) (fun c2 => ?_)
    · refine s_aload_n dX12_countOf_19 rfl ?_
      refine s_gR dX12_countOf_20 fX12_7 fun v3 => ?_
      refine s_iconst (v := 4) dX12_countOf_23 (by decide) ?_
      refine s_aI dX12_countOf_24 fun v4 => ?_
      refine s_goto (tgt := 47) dX12_countOf_25 (by decide) ?_
      exact UX12_countOf_47_ok x0 x1 v4
    · refine s_iload_n dX12_countOf_28 rfl ?_
      refine s_bipush (v := 6) dX12_countOf_29 (by decide) ?_
      refine s_icmp_ne (tgt := 43) dX12_countOf_31 (by decide) (fun c3 => ?_) (fun c3 => ?_)
      · refine s_aload_n dX12_countOf_34 rfl ?_
        refine s_gR dX12_countOf_35 fX12_7 fun v5 => ?_
        refine s_iconst (v := 5) dX12_countOf_38 (by decide) ?_
        refine s_aI dX12_countOf_39 fun v6 => ?_
        refine s_goto (tgt := 47) dX12_countOf_40 (by decide) ?_
        exact UX12_countOf_47_ok x0 x1 v6
      · refine s_aload_n dX12_countOf_43 rfl ?_
        refine s_gI dX12_countOf_44 fX12_172 fun v7 => ?_
        exact UX12_countOf_47_ok x0 x1 v7
theorem CX12_countOf {l : Launch} {g : qG} {d : Nat} (x0 : Nat) (x1 : Int32) : qCt l g mX12_countOf d 0 0 cvI [.ref x0, .int x1] (FX12_countOf x0 x1) := s_of pn_X12 (Nat.le_of_ble_eq_true rfl) fun n => FX12_countOf_ok x0 x1
def FX12_count (x0 : Nat) (x1 : Int32) : qP Int32 :=
qb (FX12_in (x1).toInt64 (0 : Int64) (7 : Int64)) fun v1 =>
if v1 = 0 then (
qb (qcl 12 x0) fun _ => qb (FX12_bad x0) fun v2 =>
qr v2) else (
qb (qcl 12 x0) fun _ => qb (FX12_countOf x0 x1) fun v3 =>
qr v3)
set_option maxRecDepth 100000 in
set_option maxHeartbeats 4000000 in
theorem FX12_count_ok {l : Launch} {g : qG} {d n : Nat} (x0 : Nat) (x1 : Int32) : qS l g mX12_count (d + 2) n 0 0 0 0 cvI 0 [(0, .ref x0), (1, .int x1)] [] (FX12_count x0 x1) := by
  unfold FX12_count
  refine s_iload_n dX12_count_0 rfl ?_
  refine s_i2l dX12_count_1 ?_
  refine s_lconst (v := 0) dX12_count_2 (by decide) ?_
  refine s_ldc2 dX12_count_3 lX12_258 ?_
  refine s_staticI (as := [.long (x1).toInt64, .long (0 : Int64), .long (7 : Int64)]) (rest := []) dX12_count_6 sX12_59 (CX12_in _ _ _) (Nat.le_of_ble_eq_true rfl) ⟨Nat.le_refl _, Nat.le_refl _⟩ fun v1 => ?_
  refine s_if_eq (tgt := 20) dX12_count_9 (by decide) (fun c1 => ?_) (fun c1 => ?_)
  · refine s_aload_n dX12_count_20 rfl ?_
    refine s_virtI (as := []) (rest := []) dX12_count_21 vX12_74 (CX12_bad _) (Nat.le_of_ble_eq_true rfl) ⟨Nat.le_refl _, Nat.le_refl _⟩ fun v2 => ?_
    exact s_ireturn dX12_count_24 rfl rfl
  · refine s_aload_n dX12_count_12 rfl ?_
    refine s_iload_n dX12_count_13 rfl ?_
    refine s_virtI (as := [.int x1]) (rest := []) dX12_count_14 vX12_260 (CX12_countOf _ _) (Nat.le_of_ble_eq_true rfl) ⟨Nat.le_refl _, Nat.le_refl _⟩ fun v3 => ?_
    refine s_goto (tgt := 24) dX12_count_17 (by decide) ?_
    exact s_ireturn dX12_count_24 rfl rfl
theorem CX12_count {l : Launch} {g : qG} {d : Nat} (x0 : Nat) (x1 : Int32) : qCt l g mX12_count (d + 2) 0 0 cvI [.ref x0, .int x1] (FX12_count x0 x1) := s_of pn_X12 (Nat.le_of_ble_eq_true rfl) fun n => FX12_count_ok x0 x1
def UX12_mixed_6 (R : Nat → Int32 → Int32 → Int64 → Int32 → qP Int64) (x0 : Nat) (x3 : Int32) (x4 : Int32) (x5 : Int64) (x7 : Int32) : qP Int64 :=
if x4 ≤ x7 then (
qr x5) else (
qb (gR 12 x0 0) fun v1 =>
qb (aI v1 (x3 + x7)) fun v2 =>
R x0 x3 x4 (((31 : Int64) * x5) + (v2).toInt64) (x7 + 1))
set_option maxRecDepth 100000 in
set_option maxHeartbeats 4000000 in
theorem UX12_mixed_6_ok {l : Launch} {g : qG} {d n : Nat} {R : Nat → Int32 → Int32 → Int64 → Int32 → qP Int64} (hR : ∀ (x0 : Nat) (x3 : Int32) (x4 : Int32) (x5 : Int64) (x7 : Int32), qS l g mX12_mixed d n 0 0 0 0 cvL 6 [(0, .ref x0), (3, .int x3), (4, .int x4), (5, .long x5), (7, .int x7)] [] (R x0 x3 x4 x5 x7)) (x0 : Nat) (x3 : Int32) (x4 : Int32) (x5 : Int64) (x7 : Int32) : qS l g mX12_mixed d n 0 0 0 0 cvL 6 [(0, .ref x0), (3, .int x3), (4, .int x4), (5, .long x5), (7, .int x7)] [] (UX12_mixed_6 R x0 x3 x4 x5 x7) := by
  unfold UX12_mixed_6
  refine s_iload dX12_mixed_6 rfl ?_
  refine s_iload dX12_mixed_8 rfl ?_
  refine s_icmp_ge (tgt := 38) dX12_mixed_10 (by decide) (fun c1 => ?_) (fun c1 => ?_)
  · refine s_lload dX12_mixed_38 rfl ?_
    exact s_lreturn dX12_mixed_40 rfl
  · refine s_ldc2 dX12_mixed_13 lX12_263 ?_
    refine s_lload dX12_mixed_16 rfl ?_
    refine s_lmul dX12_mixed_18 ?_
    refine s_aload_n dX12_mixed_19 rfl ?_
    refine s_gR dX12_mixed_20 fX12_7 fun v1 => ?_
    refine s_iload_n dX12_mixed_23 rfl ?_
    refine s_iload dX12_mixed_24 rfl ?_
    refine s_iadd dX12_mixed_26 ?_
    refine s_aI dX12_mixed_27 fun v2 => ?_
    refine s_i2l dX12_mixed_28 ?_
    refine s_ladd dX12_mixed_29 ?_
    refine s_lstore (lv' := [(5, .long (((31 : Int64) * x5) + (v2).toInt64)), (0, .ref x0), (3, .int x3), (4, .int x4), (7, .int x7)]) dX12_mixed_30 (by decide) rfl ?_
    refine s_iinc (lv' := [(7, .int (x7 + 1)), (5, .long (((31 : Int64) * x5) + (v2).toInt64)), (0, .ref x0), (3, .int x3), (4, .int x4)]) dX12_mixed_32 rfl (by decide) rfl ?_
    refine s_goto (tgt := 6) dX12_mixed_35 (by decide) ?_
    refine s_locals [2, 3, 4, 1, 0] rfl ?_
    exact hR x0 x3 x4 (((31 : Int64) * x5) + (v2).toInt64) (x7 + 1)
def WX12_mixed_6 : Nat → Nat → Int32 → Int32 → Int64 → Int32 → qP Int64
  | 0 => fun _ _ _ _ _ => qfail
  | N + 1 => fun x0 x3 x4 x5 x7 => UX12_mixed_6 (WX12_mixed_6  N)  x0 x3 x4 x5 x7
theorem WX12_mixed_6_ok {l : Launch} {g : qG} {d n : Nat} : ∀ (N : Nat) (x0 : Nat) (x3 : Int32) (x4 : Int32) (x5 : Int64) (x7 : Int32), qS l g mX12_mixed d n 0 0 0 0 cvL 6 [(0, .ref x0), (3, .int x3), (4, .int x4), (5, .long x5), (7, .int x7)] [] (WX12_mixed_6  N x0 x3 x4 x5 x7) := by
  intro N
  induction N with
  | zero => intro x0 x3 x4 x5 x7; exact s_fail
  | succ N ih => intro x0 x3 x4 x5 x7; exact UX12_mixed_6_ok ih  x0 x3 x4 x5 x7
def FX12_mixed (x0 : Nat) (x1 : Int64) (x3 : Int32) (x4 : Int32) : qP Int64 :=
WX12_mixed_6 1000000 x0 x3 x4 x1 (0 : Int32)
set_option maxRecDepth 100000 in
set_option maxHeartbeats 4000000 in
theorem FX12_mixed_ok {l : Launch} {g : qG} {d n : Nat} (x0 : Nat) (x1 : Int64) (x3 : Int32) (x4 : Int32) : qS l g mX12_mixed d n 0 0 0 0 cvL 0 [(0, .ref x0), (1, .long x1), (3, .int x3), (4, .int x4)] [] (FX12_mixed x0 x1 x3 x4) := by
  unfold FX12_mixed
  refine s_lload_n dX12_mixed_0 rfl ?_
  refine s_lstore (lv' := [(5, .long x1), (0, .ref x0), (1, .long x1), (3, .int x3), (4, .int x4)]) dX12_mixed_1 (by decide) rfl ?_
  refine s_iconst (v := 0) dX12_mixed_3 (by decide) ?_
  refine s_istore (lv' := [(7, .int (0 : Int32)), (5, .long x1), (0, .ref x0), (1, .long x1), (3, .int x3), (4, .int x4)]) dX12_mixed_4 (by decide) rfl ?_
  refine s_locals [2, 4, 5, 1, 0] rfl ?_
  exact WX12_mixed_6_ok  1000000 x0 x3 x4 x1 (0 : Int32)
theorem CX12_mixed {l : Launch} {g : qG} {d : Nat} (x0 : Nat) (x1 : Int64) (x3 : Int32) (x4 : Int32) : qCt l g mX12_mixed d 0 0 cvL [.ref x0, .long x1, .int x3, .int x4] (FX12_mixed x0 x1 x3 x4) := s_of pn_X12 (Nat.le_of_ble_eq_true rfl) fun n => FX12_mixed_ok x0 x1 x3 x4

/-! stings, surest -/
theorem lEF {a b : Nat} (h : a ≠ b) (ha : a < 9223372036854775808) (hb : b < 9223372036854775808) : (lN a = lN b) = False := eq_false (fun e => h ((pk_lEQ ha hb).mp e))
theorem lET {a b : Nat} (h : a = b) : (lN a = lN b) = True := eq_true (by rw [h])
theorem lLeT {a b : Nat} (h : a ≤ b) (hb : b < 9223372036854775808) : (lN a ≤ lN b) = True := eq_true ((pk_lLE (by omega) hb).mpr h)
theorem lLeF {a b : Nat} (h : b < a) (ha : a < 9223372036854775808) : (lN a ≤ lN b) = False := eq_false (fun e => by have := (pk_lLE ha (by omega)).mp e; omega)
theorem lgE (x y : Int64) : (lg_cmp x y = nI 0) = (x = y) := propext (lg_cmp_eq x y)
theorem lgL (x y : Int64) : (lg_cmp x y < nI 0) = (x < y) := propext (lg_cmp_lt x y)
theorem lgLe (x y : Int64) : (lg_cmp x y ≤ nI 0) = (x ≤ y) := propext (lg_cmp_le x y)
theorem lDivN {a b : Nat} (ha : a < 9223372036854775808) (h0 : 0 < b) (hb : b < 9223372036854775808) : lN a / lN b = lN (a / b) := pk_lDiv ha h0 hb
theorem lRemN {a b : Nat} (ha : a < 9223372036854775808) (h0 : 0 < b) (hb : b < 9223372036854775808) : lN a - lN a / lN b * lN b = lN (a % b) := pk_lRem ha h0 hb
theorem i64lt {x y : Int32} : (x.toInt64 < y.toInt64) ↔ x < y := by
  rw [Int64.lt_iff_toInt_lt, Int32.toInt_toInt64, Int32.toInt_toInt64, Int32.lt_iff_toInt_lt]
theorem i64nl {x : Int32} {b : Nat} (hb : b < 2147483648) : (x.toInt64 < lN b) ↔ x < nI b := by rw [← nI_l (show b < 2 ^ 31 from hb)]; exact i64lt
theorem i64ng {x : Int32} {b : Nat} (hb : b < 2147483648) : (lN b < x.toInt64) ↔ nI b < x := by rw [← nI_l (show b < 2 ^ 31 from hb)]; exact i64lt
theorem nlt_i {x y : Int32} : ¬ x < y ↔ y ≤ x := by rw [Int32.lt_iff_toInt_lt, Int32.le_iff_toInt_le]; omega
theorem x_wi {β : Type} (x lo hi : Int32) (k : Int32 → qP β) (w : qH) : qb (FX11_within x lo hi) k w = if lo ≤ x ∧ x ≤ hi then k (nI 1) w else k (nI 0) w := by
  unfold FX11_within
  by_cases h1 : x < lo
  · rw [if_pos h1, if_neg (fun e => by rw [← nlt_i] at e; exact e.1 h1)]; rfl
  · rw [if_neg h1]
    by_cases h2 : hi < x
    · rw [if_pos h2, if_neg (fun e => by have := e.2; rw [← nlt_i] at this; exact this h2)]; rfl
    · rw [if_neg h2, if_pos ⟨nlt_i.mp h1, nlt_i.mp h2⟩]; rfl
theorem y_wi {β : Type} (x : Int32) {lo hi : Nat} (hl : lo < 2147483648) (hh : hi < 2147483648) (k : Int32 → qP β) (w : qH) : qb (FX12_in x.toInt64 (lN lo) (lN hi)) k w = if nI lo ≤ x ∧ x ≤ nI hi then k (nI 1) w else k (nI 0) w := by
  rw [in_ok]
  by_cases h1 : x < nI lo
  · rw [if_pos ((i64nl hl).mpr h1), if_neg (fun e => by rw [← nlt_i] at e; exact e.1 h1)]; rfl
  · rw [if_neg (fun e => h1 ((i64nl hl).mp e))]
    by_cases h2 : nI hi < x
    · rw [if_pos ((i64ng hh).mpr h2), if_neg (fun e => by have := e.2; rw [← nlt_i] at this; exact this h2)]; rfl
    · rw [if_neg (fun e => h2 ((i64ng hh).mp e)), if_pos ⟨nlt_i.mp h1, nlt_i.mp h2⟩]; rfl
theorem wi_N {x : Int32} {lo hi : Nat} (hh : hi < 2147483648) (h : nI lo ≤ x ∧ x ≤ nI hi) (hlo : lo < 2147483648) : ∃ a, lo ≤ a ∧ a ≤ hi ∧ x = nI a := by
  rcases i_ofN x with g | ⟨a, ga, rfl⟩
  · exact absurd h.1 (by rw [leN g hlo]; exact id)
  · refine ⟨a, ?_, ?_, rfl⟩
    · exact (nI_leI hlo ga).mp h.1
    · exact (nI_leI ga hh).mp h.2
theorem y_i0_10 {β : Type} (x : Int32) (k : Int32 → qP β) (w : qH) : qb (FX12_in x.toInt64 (0 : Int64) (10 : Int64)) k w = if nI 0 ≤ x ∧ x ≤ nI 10 then k (nI 1) w else k (nI 0) w := y_wi x (lo := 0) (hi := 10) (by decide) (by decide) k w
theorem y_i0_12 {β : Type} (x : Int32) (k : Int32 → qP β) (w : qH) : qb (FX12_in x.toInt64 (0 : Int64) (12 : Int64)) k w = if nI 0 ≤ x ∧ x ≤ nI 12 then k (nI 1) w else k (nI 0) w := y_wi x (lo := 0) (hi := 12) (by decide) (by decide) k w
theorem y_i0_13 {β : Type} (x : Int32) (k : Int32 → qP β) (w : qH) : qb (FX12_in x.toInt64 (0 : Int64) (13 : Int64)) k w = if nI 0 ≤ x ∧ x ≤ nI 13 then k (nI 1) w else k (nI 0) w := y_wi x (lo := 0) (hi := 13) (by decide) (by decide) k w
theorem y_i1_99 {β : Type} (x : Int32) (k : Int32 → qP β) (w : qH) : qb (FX12_in x.toInt64 (1 : Int64) (99 : Int64)) k w = if nI 1 ≤ x ∧ x ≤ nI 99 then k (nI 1) w else k (nI 0) w := y_wi x (lo := 1) (hi := 99) (by decide) (by decide) k w
theorem y_i1_20 {β : Type} (x : Int32) (k : Int32 → qP β) (w : qH) : qb (FX12_in x.toInt64 (1 : Int64) (20 : Int64)) k w = if nI 1 ≤ x ∧ x ≤ nI 20 then k (nI 1) w else k (nI 0) w := y_wi x (lo := 1) (hi := 20) (by decide) (by decide) k w
theorem y_i0_1 {β : Type} (x : Int32) (k : Int32 → qP β) (w : qH) : qb (FX12_in x.toInt64 (0 : Int64) (1 : Int64)) k w = if nI 0 ≤ x ∧ x ≤ nI 1 then k (nI 1) w else k (nI 0) w := y_wi x (lo := 0) (hi := 1) (by decide) (by decide) k w
theorem y_i0_5 {β : Type} (x : Int32) (k : Int32 → qP β) (w : qH) : qb (FX12_in x.toInt64 (0 : Int64) (5 : Int64)) k w = if nI 0 ≤ x ∧ x ≤ nI 5 then k (nI 1) w else k (nI 0) w := y_wi x (lo := 0) (hi := 5) (by decide) (by decide) k w
theorem y_i0_4 {β : Type} (x : Int32) (k : Int32 → qP β) (w : qH) : qb (FX12_in x.toInt64 (0 : Int64) (4 : Int64)) k w = if nI 0 ≤ x ∧ x ≤ nI 4 then k (nI 1) w else k (nI 0) w := y_wi x (lo := 0) (hi := 4) (by decide) (by decide) k w
/-! powers, ways -/
def wc (k : Nat) : Nat → Nat
  | 0 => 1
  | s + 1 => wc k s * (k - s) / (s + 1)
def ws (n k l : Nat) : Nat → Nat
  | 0 => 0
  | d + 1 => ws n k l d + (if d < l then wc k d * n ^ d * (10 - n) ^ (k - d) else 0)
theorem wc_le : ∀ k, k < 13 → ∀ j, j < 14 → wc k j ≤ 924 := by decide +kernel
theorem ws_stop {n k l j : Nat} (h : l ≤ j) : ∀ d, ws n k l (j + d) = ws n k l j := by
  intro d
  induction d with
  | zero => rfl
  | succ d ih =>
    show ws n k l (j + d) + (if j + d < l then _ else 0) = _
    rw [if_neg (by omega), ih]; rfl
theorem ws_le0 {n k l M : Nat} (hM : ∀ d, d ≤ k → wc k d * n ^ d * (10 - n) ^ (k - d) ≤ M) : ∀ d, d ≤ k + 1 → ws n k l d ≤ d * M := by
  intro d
  induction d with
  | zero => intro _; exact Nat.zero_le _
  | succ d ih =>
    intro hd
    have h1 := ih (by omega)
    have h2 := hM d (by omega)
    show ws n k l d + (if d < l then wc k d * n ^ d * (10 - n) ^ (k - d) else 0) ≤ _
    rw [Nat.succ_mul]
    split
    · omega
    · omega
theorem ws_le {n k l : Nat} (hn : n ≤ 10) (hk : k ≤ 12) : ∀ d, d ≤ k + 1 → ws n k l d ≤ d * (924 * 10 ^ 12) := ws_le0 (fun d hd => by
    have a1 := wc_le k (by omega) d (by omega)
    have a2 : n ^ d ≤ 10 ^ d := Nat.pow_le_pow_left hn d
    have a3 : (10 - n) ^ (k - d) ≤ 10 ^ (k - d) := Nat.pow_le_pow_left (by omega) _
    have a4 : (10 : Nat) ^ d * 10 ^ (k - d) ≤ 10 ^ 12 := by
      rw [← Nat.pow_add]; exact Nat.pow_le_pow_right (by decide) (by omega)
    rw [Nat.mul_assoc]
    exact Nat.le_trans (Nat.mul_le_mul a1 (Nat.mul_le_mul a2 a3)) (Nat.mul_le_mul_left _ a4))
theorem x_pow {b e : Nat} (hb : b < 2147483648) (he : e < 1000) (w : qH) : ∀ (d j N p : Nat), j + d = e → d < N → WX11_power_5 N (nI b) (nI e) (lN p) (nI j) w = some (lN (p * b ^ d), w) := by
  intro d
  induction d with
  | zero =>
    intro j N p hj hN
    obtain ⟨N, rfl⟩ : ∃ M, N = M + 1 := ⟨N - 1, by omega⟩
    show UX11_power_5 (WX11_power_5 N) (nI b) (nI e) (lN p) (nI j) w = _
    simp (disch := omega) only [UX11_power_5, ↓qb_as, ↓qb_it, ↓qi_ap, ↓reduceIte, ↓qb_qr, ↓qr_ap, ↓qb_gd, ↓gd_ap, ↓qb_so, eu_ap, up_ap, er_ap, eB_ap, uL_ap, ltT, ltF, leT, leF, eqT, eqF, nltT, nltF, nleT, nleF, neqT, neqF, clN, nI_add, pk_mul, pk_sub, divN, remN, lLT, lLF, toL, eq_self, and_self, or_self, or_false, false_or, or_true, true_or, and_true, true_and, and_false, false_and, not_true_eq_false, not_false_eq_true, if_true, if_false, ite_true, ite_false, Nat.reduceAdd, Nat.reduceMul, Nat.reduceSub, Nat.reduceDiv, Nat.reduceMod, Nat.reducePow, Nat.reduceEqDiff, Nat.reduceLT, li_0, li_1, li_2, li_3, li_4, li_5, li_6, li_7, li_8, li_9, li_10, li_11, li_12, li_13, li_15, li_16, li_20, li_25, li_26, li_27, li_29, li_30, li_31, li_32, li_43, li_46, li_48, li_49, li_57, li_59, li_60, li_63, li_89, li_93, li_97, li_99, li_100, li_108, li_110, li_120, li_122, li_125, li_129, li_133, li_200, li_253, li_1000, lo_0, lo_1, lo_10, lo_109103333, lo_12, lo_12343, lo_13, lo_17382886, lo_2, lo_20, lo_20194900, lo_25, lo_255, lo_27, lo_3, lo_31, lo_32, lo_4, lo_4153, lo_5, lo_537076, lo_6, lo_7, lo_8, lo_821, lo_9, lo_97, lo_99, Nat.pow_zero, Nat.mul_one]
  | succ d ih =>
    intro j N p hj hN
    obtain ⟨N, rfl⟩ : ∃ M, N = M + 1 := ⟨N - 1, by omega⟩
    show UX11_power_5 (WX11_power_5 N) (nI b) (nI e) (lN p) (nI j) w = _
    simp (disch := omega) only [UX11_power_5, ↓qb_as, ↓qb_it, ↓qi_ap, ↓reduceIte, ↓qb_qr, ↓qr_ap, ↓qb_gd, ↓gd_ap, ↓qb_so, eu_ap, up_ap, er_ap, eB_ap, uL_ap, ltT, ltF, leT, leF, eqT, eqF, nltT, nltF, nleT, nleF, neqT, neqF, clN, nI_add, pk_mul, pk_sub, divN, remN, lLT, lLF, toL, eq_self, and_self, or_self, or_false, false_or, or_true, true_or, and_true, true_and, and_false, false_and, not_true_eq_false, not_false_eq_true, if_true, if_false, ite_true, ite_false, Nat.reduceAdd, Nat.reduceMul, Nat.reduceSub, Nat.reduceDiv, Nat.reduceMod, Nat.reducePow, Nat.reduceEqDiff, Nat.reduceLT, li_0, li_1, li_2, li_3, li_4, li_5, li_6, li_7, li_8, li_9, li_10, li_11, li_12, li_13, li_15, li_16, li_20, li_25, li_26, li_27, li_29, li_30, li_31, li_32, li_43, li_46, li_48, li_49, li_57, li_59, li_60, li_63, li_89, li_93, li_97, li_99, li_100, li_108, li_110, li_120, li_122, li_125, li_129, li_133, li_200, li_253, li_1000, lo_0, lo_1, lo_10, lo_109103333, lo_12, lo_12343, lo_13, lo_17382886, lo_2, lo_20, lo_20194900, lo_25, lo_255, lo_27, lo_3, lo_31, lo_32, lo_4, lo_4153, lo_5, lo_537076, lo_6, lo_7, lo_8, lo_821, lo_9, lo_97, lo_99, lN_mul]
    rw [ih (j + 1) N (p * b) (by omega) (by omega), Nat.pow_succ', Nat.mul_assoc]
theorem x_power {b e : Nat} (hb : b < 2147483648) (he : e < 1000) (w : qH) : FX11_power (nI b) (nI e) w = some (lN (b ^ e), w) := by
  have h := x_pow hb he w e 0 1000000 1 (by omega) (by omega)
  rw [Nat.one_mul] at h
  exact h
theorem y_pow {b e : Nat} (he : e < 1000) (w : qH) : ∀ (d j N p : Nat), j + d = e → d < N → WX12_power_5 N (lN b) (nI e) (lN p) (nI j) w = some (lN (p * b ^ d), w) := by
  intro d
  induction d with
  | zero =>
    intro j N p hj hN
    obtain ⟨N, rfl⟩ : ∃ M, N = M + 1 := ⟨N - 1, by omega⟩
    show UX12_power_5 (WX12_power_5 N) (lN b) (nI e) (lN p) (nI j) w = _
    simp (disch := omega) only [UX12_power_5, ↓qb_as, ↓qb_it, ↓qi_ap, ↓reduceIte, ↓qb_qr, ↓qr_ap, ↓qb_gd, ↓gd_ap, ↓qb_so, eu_ap, up_ap, er_ap, eB_ap, uL_ap, ltT, ltF, leT, leF, eqT, eqF, nltT, nltF, nleT, nleF, neqT, neqF, clN, nI_add, pk_mul, pk_sub, divN, remN, lLT, lLF, toL, eq_self, and_self, or_self, or_false, false_or, or_true, true_or, and_true, true_and, and_false, false_and, not_true_eq_false, not_false_eq_true, if_true, if_false, ite_true, ite_false, Nat.reduceAdd, Nat.reduceMul, Nat.reduceSub, Nat.reduceDiv, Nat.reduceMod, Nat.reducePow, Nat.reduceEqDiff, Nat.reduceLT, li_0, li_1, li_2, li_3, li_4, li_5, li_6, li_7, li_8, li_9, li_10, li_11, li_12, li_13, li_15, li_16, li_20, li_25, li_26, li_27, li_29, li_30, li_31, li_32, li_43, li_46, li_48, li_49, li_57, li_59, li_60, li_63, li_89, li_93, li_97, li_99, li_100, li_108, li_110, li_120, li_122, li_125, li_129, li_133, li_200, li_253, li_1000, lo_0, lo_1, lo_10, lo_109103333, lo_12, lo_12343, lo_13, lo_17382886, lo_2, lo_20, lo_20194900, lo_25, lo_255, lo_27, lo_3, lo_31, lo_32, lo_4, lo_4153, lo_5, lo_537076, lo_6, lo_7, lo_8, lo_821, lo_9, lo_97, lo_99, Nat.pow_zero, Nat.mul_one]
  | succ d ih =>
    intro j N p hj hN
    obtain ⟨N, rfl⟩ : ∃ M, N = M + 1 := ⟨N - 1, by omega⟩
    show UX12_power_5 (WX12_power_5 N) (lN b) (nI e) (lN p) (nI j) w = _
    simp (disch := omega) only [UX12_power_5, ↓qb_as, ↓qb_it, ↓qi_ap, ↓reduceIte, ↓qb_qr, ↓qr_ap, ↓qb_gd, ↓gd_ap, ↓qb_so, eu_ap, up_ap, er_ap, eB_ap, uL_ap, ltT, ltF, leT, leF, eqT, eqF, nltT, nltF, nleT, nleF, neqT, neqF, clN, nI_add, pk_mul, pk_sub, divN, remN, lLT, lLF, toL, eq_self, and_self, or_self, or_false, false_or, or_true, true_or, and_true, true_and, and_false, false_and, not_true_eq_false, not_false_eq_true, if_true, if_false, ite_true, ite_false, Nat.reduceAdd, Nat.reduceMul, Nat.reduceSub, Nat.reduceDiv, Nat.reduceMod, Nat.reducePow, Nat.reduceEqDiff, Nat.reduceLT, li_0, li_1, li_2, li_3, li_4, li_5, li_6, li_7, li_8, li_9, li_10, li_11, li_12, li_13, li_15, li_16, li_20, li_25, li_26, li_27, li_29, li_30, li_31, li_32, li_43, li_46, li_48, li_49, li_57, li_59, li_60, li_63, li_89, li_93, li_97, li_99, li_100, li_108, li_110, li_120, li_122, li_125, li_129, li_133, li_200, li_253, li_1000, lo_0, lo_1, lo_10, lo_109103333, lo_12, lo_12343, lo_13, lo_17382886, lo_2, lo_20, lo_20194900, lo_25, lo_255, lo_27, lo_3, lo_31, lo_32, lo_4, lo_4153, lo_5, lo_537076, lo_6, lo_7, lo_8, lo_821, lo_9, lo_97, lo_99, lN_mul]
    rw [ih (j + 1) N (p * b) (by omega) (by omega), Nat.pow_succ', Nat.mul_assoc]
theorem y_power {b e : Nat} (he : e < 1000) (w : qH) : FX12_power (lN b) (nI e) w = some (lN (b ^ e), w) := by
  have h := y_pow (b := b) he w e 0 1000000 1 (by omega) (by omega)
  rw [Nat.one_mul] at h
  exact h
set_option maxHeartbeats 1000000 in
theorem x_ways1 {n k l : Nat} (hn : n ≤ 10) (hk : k ≤ 12) (hl : l ≤ 13) (w : qH) : ∀ (d j N : Nat), j + d = k + 1 → d < N → WX11_waysOfFewer_8 N (nI n) (nI k) (nI l) (lN (ws n k l j)) (lN (wc k j)) (nI j) w = some (lN (ws n k l (k + 1)), w) := by
  intro d
  induction d with
  | zero =>
    intro j N hj hN
    obtain ⟨N, rfl⟩ : ∃ M, N = M + 1 := ⟨N - 1, by omega⟩
    have e : j = k + 1 := by omega
    subst e
    show UX11_waysOfFewer_8 (WX11_waysOfFewer_8 N) (nI n) (nI k) (nI l) _ _ (nI (k + 1)) w = _
    by_cases q : l ≤ k + 1
    · simp (disch := omega) only [UX11_waysOfFewer_8, ↓qb_as, ↓qb_it, ↓qi_ap, ↓reduceIte, ↓qb_qr, ↓qr_ap, ↓qb_gd, ↓gd_ap, ↓qb_so, eu_ap, up_ap, er_ap, eB_ap, uL_ap, ltT, ltF, leT, leF, eqT, eqF, nltT, nltF, nleT, nleF, neqT, neqF, clN, nI_add, pk_mul, pk_sub, divN, remN, lLT, lLF, toL, eq_self, and_self, or_self, or_false, false_or, or_true, true_or, and_true, true_and, and_false, false_and, not_true_eq_false, not_false_eq_true, if_true, if_false, ite_true, ite_false, Nat.reduceAdd, Nat.reduceMul, Nat.reduceSub, Nat.reduceDiv, Nat.reduceMod, Nat.reducePow, Nat.reduceEqDiff, Nat.reduceLT, li_0, li_1, li_2, li_3, li_4, li_5, li_6, li_7, li_8, li_9, li_10, li_11, li_12, li_13, li_15, li_16, li_20, li_25, li_26, li_27, li_29, li_30, li_31, li_32, li_43, li_46, li_48, li_49, li_57, li_59, li_60, li_63, li_89, li_93, li_97, li_99, li_100, li_108, li_110, li_120, li_122, li_125, li_129, li_133, li_200, li_253, li_1000, lo_0, lo_1, lo_10, lo_109103333, lo_12, lo_12343, lo_13, lo_17382886, lo_2, lo_20, lo_20194900, lo_25, lo_255, lo_27, lo_3, lo_31, lo_32, lo_4, lo_4153, lo_5, lo_537076, lo_6, lo_7, lo_8, lo_821, lo_9, lo_97, lo_99]
    · simp (disch := omega) only [UX11_waysOfFewer_8, ↓qb_as, ↓qb_it, ↓qi_ap, ↓reduceIte, ↓qb_qr, ↓qr_ap, ↓qb_gd, ↓gd_ap, ↓qb_so, eu_ap, up_ap, er_ap, eB_ap, uL_ap, ltT, ltF, leT, leF, eqT, eqF, nltT, nltF, nleT, nleF, neqT, neqF, clN, nI_add, pk_mul, pk_sub, divN, remN, lLT, lLF, toL, eq_self, and_self, or_self, or_false, false_or, or_true, true_or, and_true, true_and, and_false, false_and, not_true_eq_false, not_false_eq_true, if_true, if_false, ite_true, ite_false, Nat.reduceAdd, Nat.reduceMul, Nat.reduceSub, Nat.reduceDiv, Nat.reduceMod, Nat.reducePow, Nat.reduceEqDiff, Nat.reduceLT, li_0, li_1, li_2, li_3, li_4, li_5, li_6, li_7, li_8, li_9, li_10, li_11, li_12, li_13, li_15, li_16, li_20, li_25, li_26, li_27, li_29, li_30, li_31, li_32, li_43, li_46, li_48, li_49, li_57, li_59, li_60, li_63, li_89, li_93, li_97, li_99, li_100, li_108, li_110, li_120, li_122, li_125, li_129, li_133, li_200, li_253, li_1000, lo_0, lo_1, lo_10, lo_109103333, lo_12, lo_12343, lo_13, lo_17382886, lo_2, lo_20, lo_20194900, lo_25, lo_255, lo_27, lo_3, lo_31, lo_32, lo_4, lo_4153, lo_5, lo_537076, lo_6, lo_7, lo_8, lo_821, lo_9, lo_97, lo_99]
  | succ d ih =>
    intro j N hj hN
    obtain ⟨N, rfl⟩ : ∃ M, N = M + 1 := ⟨N - 1, by omega⟩
    show UX11_waysOfFewer_8 (WX11_waysOfFewer_8 N) (nI n) (nI k) (nI l) _ _ (nI j) w = _
    by_cases q : l ≤ j
    · have e := ws_stop (n := n) (k := k) q (k + 1 - j)
      rw [show j + (k + 1 - j) = k + 1 by omega] at e
      rw [e]
      simp (disch := omega) only [UX11_waysOfFewer_8, ↓qb_as, ↓qb_it, ↓qi_ap, ↓reduceIte, ↓qb_qr, ↓qr_ap, ↓qb_gd, ↓gd_ap, ↓qb_so, eu_ap, up_ap, er_ap, eB_ap, uL_ap, ltT, ltF, leT, leF, eqT, eqF, nltT, nltF, nleT, nleF, neqT, neqF, clN, nI_add, pk_mul, pk_sub, divN, remN, lLT, lLF, toL, eq_self, and_self, or_self, or_false, false_or, or_true, true_or, and_true, true_and, and_false, false_and, not_true_eq_false, not_false_eq_true, if_true, if_false, ite_true, ite_false, Nat.reduceAdd, Nat.reduceMul, Nat.reduceSub, Nat.reduceDiv, Nat.reduceMod, Nat.reducePow, Nat.reduceEqDiff, Nat.reduceLT, li_0, li_1, li_2, li_3, li_4, li_5, li_6, li_7, li_8, li_9, li_10, li_11, li_12, li_13, li_15, li_16, li_20, li_25, li_26, li_27, li_29, li_30, li_31, li_32, li_43, li_46, li_48, li_49, li_57, li_59, li_60, li_63, li_89, li_93, li_97, li_99, li_100, li_108, li_110, li_120, li_122, li_125, li_129, li_133, li_200, li_253, li_1000, lo_0, lo_1, lo_10, lo_109103333, lo_12, lo_12343, lo_13, lo_17382886, lo_2, lo_20, lo_20194900, lo_25, lo_255, lo_27, lo_3, lo_31, lo_32, lo_4, lo_4153, lo_5, lo_537076, lo_6, lo_7, lo_8, lo_821, lo_9, lo_97, lo_99]
    · have h1 := wc_le k (by omega) j (by omega)
      have h2 : wc k j * (k - j) < 9223372036854775808 := Nat.lt_of_le_of_lt (Nat.mul_le_mul h1 (show k - j ≤ 12 by omega)) (by decide)
      have h := ih (j + 1) N (by omega) (by omega)
      have e3 : ws n k l (j + 1) = ws n k l j + wc k j * n ^ j * (10 - n) ^ (k - j) := by
        show _ + (if j < l then _ else 0) = _
        rw [if_pos (by omega)]
      rw [e3] at h
      simp (disch := omega) only [UX11_waysOfFewer_8, ↓qb_as, ↓qb_it, ↓qi_ap, ↓reduceIte, ↓qb_qr, ↓qr_ap, ↓qb_gd, ↓gd_ap, ↓qb_so, eu_ap, up_ap, er_ap, eB_ap, uL_ap, ltT, ltF, leT, leF, eqT, eqF, nltT, nltF, nleT, nleF, neqT, neqF, clN, nI_add, pk_mul, pk_sub, divN, remN, lLT, lLF, toL, eq_self, and_self, or_self, or_false, false_or, or_true, true_or, and_true, true_and, and_false, false_and, not_true_eq_false, not_false_eq_true, if_true, if_false, ite_true, ite_false, Nat.reduceAdd, Nat.reduceMul, Nat.reduceSub, Nat.reduceDiv, Nat.reduceMod, Nat.reducePow, Nat.reduceEqDiff, Nat.reduceLT, li_0, li_1, li_2, li_3, li_4, li_5, li_6, li_7, li_8, li_9, li_10, li_11, li_12, li_13, li_15, li_16, li_20, li_25, li_26, li_27, li_29, li_30, li_31, li_32, li_43, li_46, li_48, li_49, li_57, li_59, li_60, li_63, li_89, li_93, li_97, li_99, li_100, li_108, li_110, li_120, li_122, li_125, li_129, li_133, li_200, li_253, li_1000, lo_0, lo_1, lo_10, lo_109103333, lo_12, lo_12343, lo_13, lo_17382886, lo_2, lo_20, lo_20194900, lo_25, lo_255, lo_27, lo_3, lo_31, lo_32, lo_4, lo_4153, lo_5, lo_537076, lo_6, lo_7, lo_8, lo_821, lo_9, lo_97, lo_99, ↓qb_of (x_power (show n < 2147483648 by omega) (show j < 1000 by omega) w), ↓qb_of (x_power (show 10 - n < 2147483648 by omega) (show k - j < 1000 by omega) w), lN_mul, lN_add, lEF, lDivN]
      exact h
theorem x_ways {n k l : Nat} (hn : n ≤ 10) (hk : k ≤ 12) (hl : l ≤ 13) (w : qH) : FX11_waysOfFewer (nI n) (nI k) (nI l) w = some (lN (ws n k l (k + 1)), w) := x_ways1 hn hk hl w (k + 1) 0 1000000 (by omega) (by omega)
set_option maxHeartbeats 1000000 in
theorem y_stung1 {n k l : Nat} (hn : n ≤ 10) (hk : k ≤ 12) (hl : l ≤ 13) (w : qH) : ∀ (d j N : Nat), j + d = k + 1 → d < N → WX12_stung_8 N (nI n) (nI k) (nI l) (lN (ws n k l j)) (lN (wc k j)) (nI j) w = some (lN (ws n k l (k + 1)), w) := by
  intro d
  induction d with
  | zero =>
    intro j N hj hN
    obtain ⟨N, rfl⟩ : ∃ M, N = M + 1 := ⟨N - 1, by omega⟩
    have e : j = k + 1 := by omega
    subst e
    show UX12_stung_8 (WX12_stung_8 N) (nI n) (nI k) (nI l) _ _ (nI (k + 1)) w = _
    simp (disch := omega) only [UX12_stung_8, ↓qb_as, ↓qb_it, ↓qi_ap, ↓reduceIte, ↓qb_qr, ↓qr_ap, ↓qb_gd, ↓gd_ap, ↓qb_so, eu_ap, up_ap, er_ap, eB_ap, uL_ap, ltT, ltF, leT, leF, eqT, eqF, nltT, nltF, nleT, nleF, neqT, neqF, clN, nI_add, pk_mul, pk_sub, divN, remN, lLT, lLF, toL, eq_self, and_self, or_self, or_false, false_or, or_true, true_or, and_true, true_and, and_false, false_and, not_true_eq_false, not_false_eq_true, if_true, if_false, ite_true, ite_false, Nat.reduceAdd, Nat.reduceMul, Nat.reduceSub, Nat.reduceDiv, Nat.reduceMod, Nat.reducePow, Nat.reduceEqDiff, Nat.reduceLT, li_0, li_1, li_2, li_3, li_4, li_5, li_6, li_7, li_8, li_9, li_10, li_11, li_12, li_13, li_15, li_16, li_20, li_25, li_26, li_27, li_29, li_30, li_31, li_32, li_43, li_46, li_48, li_49, li_57, li_59, li_60, li_63, li_89, li_93, li_97, li_99, li_100, li_108, li_110, li_120, li_122, li_125, li_129, li_133, li_200, li_253, li_1000, lo_0, lo_1, lo_10, lo_109103333, lo_12, lo_12343, lo_13, lo_17382886, lo_2, lo_20, lo_20194900, lo_25, lo_255, lo_27, lo_3, lo_31, lo_32, lo_4, lo_4153, lo_5, lo_537076, lo_6, lo_7, lo_8, lo_821, lo_9, lo_97, lo_99]
  | succ d ih =>
    intro j N hj hN
    obtain ⟨N, rfl⟩ : ∃ M, N = M + 1 := ⟨N - 1, by omega⟩
    have h1 := wc_le k (by omega) j (by omega)
    have h2 : wc k j * (k - j) < 9223372036854775808 := Nat.lt_of_le_of_lt (Nat.mul_le_mul h1 (show k - j ≤ 12 by omega)) (by decide)
    have h := ih (j + 1) N (by omega) (by omega)
    show UX12_stung_8 (WX12_stung_8 N) (nI n) (nI k) (nI l) _ _ (nI j) w = _
    by_cases q : l ≤ j
    · have e3 : ws n k l (j + 1) = ws n k l j + 0 := by
        show _ + (if j < l then _ else 0) = _
        rw [if_neg (by omega)]
      rw [e3] at h
      simp (disch := omega) only [UX12_stung_8, UX12_stung_48, ↓qb_as, ↓qb_it, ↓qi_ap, ↓reduceIte, ↓qb_qr, ↓qr_ap, ↓qb_gd, ↓gd_ap, ↓qb_so, eu_ap, up_ap, er_ap, eB_ap, uL_ap, ltT, ltF, leT, leF, eqT, eqF, nltT, nltF, nleT, nleF, neqT, neqF, clN, nI_add, pk_mul, pk_sub, divN, remN, lLT, lLF, toL, eq_self, and_self, or_self, or_false, false_or, or_true, true_or, and_true, true_and, and_false, false_and, not_true_eq_false, not_false_eq_true, if_true, if_false, ite_true, ite_false, Nat.reduceAdd, Nat.reduceMul, Nat.reduceSub, Nat.reduceDiv, Nat.reduceMod, Nat.reducePow, Nat.reduceEqDiff, Nat.reduceLT, li_0, li_1, li_2, li_3, li_4, li_5, li_6, li_7, li_8, li_9, li_10, li_11, li_12, li_13, li_15, li_16, li_20, li_25, li_26, li_27, li_29, li_30, li_31, li_32, li_43, li_46, li_48, li_49, li_57, li_59, li_60, li_63, li_89, li_93, li_97, li_99, li_100, li_108, li_110, li_120, li_122, li_125, li_129, li_133, li_200, li_253, li_1000, lo_0, lo_1, lo_10, lo_109103333, lo_12, lo_12343, lo_13, lo_17382886, lo_2, lo_20, lo_20194900, lo_25, lo_255, lo_27, lo_3, lo_31, lo_32, lo_4, lo_4153, lo_5, lo_537076, lo_6, lo_7, lo_8, lo_821, lo_9, lo_97, lo_99, lN_mul, lN_add, lEF, lDivN]
      exact h
    · have e3 : ws n k l (j + 1) = ws n k l j + wc k j * n ^ j * (10 - n) ^ (k - j) := by
        show _ + (if j < l then _ else 0) = _
        rw [if_pos (by omega)]
      rw [e3] at h
      simp (disch := omega) only [UX12_stung_8, UX12_stung_48, ↓qb_as, ↓qb_it, ↓qi_ap, ↓reduceIte, ↓qb_qr, ↓qr_ap, ↓qb_gd, ↓gd_ap, ↓qb_so, eu_ap, up_ap, er_ap, eB_ap, uL_ap, ltT, ltF, leT, leF, eqT, eqF, nltT, nltF, nleT, nleF, neqT, neqF, clN, nI_add, pk_mul, pk_sub, divN, remN, lLT, lLF, toL, eq_self, and_self, or_self, or_false, false_or, or_true, true_or, and_true, true_and, and_false, false_and, not_true_eq_false, not_false_eq_true, if_true, if_false, ite_true, ite_false, Nat.reduceAdd, Nat.reduceMul, Nat.reduceSub, Nat.reduceDiv, Nat.reduceMod, Nat.reducePow, Nat.reduceEqDiff, Nat.reduceLT, li_0, li_1, li_2, li_3, li_4, li_5, li_6, li_7, li_8, li_9, li_10, li_11, li_12, li_13, li_15, li_16, li_20, li_25, li_26, li_27, li_29, li_30, li_31, li_32, li_43, li_46, li_48, li_49, li_57, li_59, li_60, li_63, li_89, li_93, li_97, li_99, li_100, li_108, li_110, li_120, li_122, li_125, li_129, li_133, li_200, li_253, li_1000, lo_0, lo_1, lo_10, lo_109103333, lo_12, lo_12343, lo_13, lo_17382886, lo_2, lo_20, lo_20194900, lo_25, lo_255, lo_27, lo_3, lo_31, lo_32, lo_4, lo_4153, lo_5, lo_537076, lo_6, lo_7, lo_8, lo_821, lo_9, lo_97, lo_99, ↓qb_of (y_power (b := n) (show j < 1000 by omega) w), ↓qb_of (y_power (b := 10 - n) (show k - j < 1000 by omega) w), lN_mul, lN_add, lEF, lDivN]
      exact h
theorem y_stung {n k l : Nat} (hn : n ≤ 10) (hk : k ≤ 12) (hl : l ≤ 13) (w : qH) : FX12_stung (nI n) (nI k) (nI l) w = some (lN (ws n k l (k + 1)), w) := y_stung1 hn hk hl w (k + 1) 0 1000000 (by omega) (by omega)
/-! the common divisor -/
theorem gcd_st (a b : Nat) : Nat.gcd a b = Nat.gcd b (a % b) := by rw [Nat.gcd_comm a b, Nat.gcd_rec b a, Nat.gcd_comm]
theorem gcd_half {a b m : Nat} (h : b < 2 ^ (m + 1)) (hb : 0 < b) (hc : a % b ≠ 0) : b % (a % b) < 2 ^ m := by
  have hp : 2 ^ (m + 1) = 2 * 2 ^ m := by rw [Nat.pow_succ, Nat.mul_comm]
  have h1 : a % b < b := Nat.mod_lt _ hb
  have h2 : b % (a % b) < a % b := Nat.mod_lt _ (by omega)
  have h3 : b % (a % b) ≤ b - a % b := by rw [Nat.mod_eq_sub_mod (by omega)]; exact Nat.mod_le _ _
  omega
theorem lE0 : (lN 0 = lN 0) = True := eq_true rfl
theorem x_gcd1 (w : qH) : ∀ (m k N a b : Nat), b < 2 ^ m → k + 2 * m < 999 → 2 * m + 2 < N → a < 9223372036854775808 → b < 9223372036854775808 → WX11_commonDivisor_9 N (lN a) (lN b) (nI k) w = some (lN (Nat.gcd a b), w) := by
  have step0 : ∀ (N k a : Nat), k < 1000 → 1 ≤ N → WX11_commonDivisor_9 N (lN a) (lN 0) (nI k) w = some (lN (Nat.gcd a 0), w) := by
    intro N k a hk hN
    obtain ⟨N, rfl⟩ : ∃ M, N = M + 1 := ⟨N - 1, by omega⟩
    show UX11_commonDivisor_9 (WX11_commonDivisor_9 N) (lN a) (lN 0) (nI k) w = _
    simp (disch := omega) only [UX11_commonDivisor_9, ↓qb_as, ↓qb_it, ↓qi_ap, ↓reduceIte, ↓qb_qr, ↓qr_ap, ↓qb_gd, ↓gd_ap, ↓qb_so, eu_ap, up_ap, er_ap, eB_ap, uL_ap, ltT, ltF, leT, leF, eqT, eqF, nltT, nltF, nleT, nleF, neqT, neqF, clN, nI_add, pk_mul, pk_sub, divN, remN, lLT, lLF, toL, eq_self, and_self, or_self, or_false, false_or, or_true, true_or, and_true, true_and, and_false, false_and, not_true_eq_false, not_false_eq_true, if_true, if_false, ite_true, ite_false, Nat.reduceAdd, Nat.reduceMul, Nat.reduceSub, Nat.reduceDiv, Nat.reduceMod, Nat.reducePow, Nat.reduceEqDiff, Nat.reduceLT, li_0, li_1, li_2, li_3, li_4, li_5, li_6, li_7, li_8, li_9, li_10, li_11, li_12, li_13, li_15, li_16, li_20, li_25, li_26, li_27, li_29, li_30, li_31, li_32, li_43, li_46, li_48, li_49, li_57, li_59, li_60, li_63, li_89, li_93, li_97, li_99, li_100, li_108, li_110, li_120, li_122, li_125, li_129, li_133, li_200, li_253, li_1000, lo_0, lo_1, lo_10, lo_109103333, lo_12, lo_12343, lo_13, lo_17382886, lo_2, lo_20, lo_20194900, lo_25, lo_255, lo_27, lo_3, lo_31, lo_32, lo_4, lo_4153, lo_5, lo_537076, lo_6, lo_7, lo_8, lo_821, lo_9, lo_97, lo_99, lgE, Nat.gcd_zero_right]
  have step1 : ∀ (N k a b : Nat), k < 1000 → 0 < b → a < 9223372036854775808 → b < 9223372036854775808 → WX11_commonDivisor_9 (N + 1) (lN a) (lN b) (nI k) w = WX11_commonDivisor_9 N (lN b) (lN (a % b)) (nI (k + 1)) w := by
    intro N k a b hk hb ha hb2
    show UX11_commonDivisor_9 (WX11_commonDivisor_9 N) (lN a) (lN b) (nI k) w = _
    simp (disch := omega) only [UX11_commonDivisor_9, ↓qb_as, ↓qb_it, ↓qi_ap, ↓reduceIte, ↓qb_qr, ↓qr_ap, ↓qb_gd, ↓gd_ap, ↓qb_so, eu_ap, up_ap, er_ap, eB_ap, uL_ap, ltT, ltF, leT, leF, eqT, eqF, nltT, nltF, nleT, nleF, neqT, neqF, clN, nI_add, pk_mul, pk_sub, divN, remN, lLT, lLF, toL, eq_self, and_self, or_self, or_false, false_or, or_true, true_or, and_true, true_and, and_false, false_and, not_true_eq_false, not_false_eq_true, if_true, if_false, ite_true, ite_false, Nat.reduceAdd, Nat.reduceMul, Nat.reduceSub, Nat.reduceDiv, Nat.reduceMod, Nat.reducePow, Nat.reduceEqDiff, Nat.reduceLT, li_0, li_1, li_2, li_3, li_4, li_5, li_6, li_7, li_8, li_9, li_10, li_11, li_12, li_13, li_15, li_16, li_20, li_25, li_26, li_27, li_29, li_30, li_31, li_32, li_43, li_46, li_48, li_49, li_57, li_59, li_60, li_63, li_89, li_93, li_97, li_99, li_100, li_108, li_110, li_120, li_122, li_125, li_129, li_133, li_200, li_253, li_1000, lo_0, lo_1, lo_10, lo_109103333, lo_12, lo_12343, lo_13, lo_17382886, lo_2, lo_20, lo_20194900, lo_25, lo_255, lo_27, lo_3, lo_31, lo_32, lo_4, lo_4153, lo_5, lo_537076, lo_6, lo_7, lo_8, lo_821, lo_9, lo_97, lo_99, lgE, lEF, lRemN]
  intro m
  induction m with
  | zero =>
    intro k N a b hb hk hN ha hb2
    have e : b = 0 := by have : b < 1 := hb; omega
    subst e
    exact step0 N k a (by omega) (by omega)
  | succ m ih =>
    intro k N a b hb hk hN ha hb2
    by_cases q : b = 0
    · subst q; exact step0 N k a (by omega) (by omega)
    obtain ⟨N, rfl⟩ : ∃ M, N = M + 1 + 1 := ⟨N - 2, by omega⟩
    have hl : a % b < b := Nat.mod_lt _ (by omega)
    rw [step1 (N + 1) k a b (by omega) (by omega) ha hb2, gcd_st a b]
    by_cases q2 : a % b = 0
    · rw [q2]; exact step0 (N + 1) (k + 1) b (by omega) (by omega)
    · rw [step1 N (k + 1) b (a % b) (by omega) (by omega) hb2 (by omega), gcd_st b (a % b)]
      have hl2 : b % (a % b) < a % b := Nat.mod_lt _ (by omega)
      exact ih (k + 1 + 1) N (a % b) (b % (a % b)) (gcd_half hb (by omega) q2) (by omega) (by omega) (by omega) (by omega)
theorem y_gcd1 (w : qH) : ∀ (m N a b : Nat), b < 2 ^ m → 2 * m + 2 < N → a < 9223372036854775808 → b < 9223372036854775808 → WX12_divisor_6 N (lN a) (lN b) w = some (lN (Nat.gcd a b), w) := by
  have step0 : ∀ (N a : Nat), 1 ≤ N → WX12_divisor_6 N (lN a) (lN 0) w = some (lN (Nat.gcd a 0), w) := by
    intro N a hN
    obtain ⟨N, rfl⟩ : ∃ M, N = M + 1 := ⟨N - 1, by omega⟩
    show UX12_divisor_6 (WX12_divisor_6 N) (lN a) (lN 0) w = _
    simp (disch := omega) only [UX12_divisor_6, ↓qb_as, ↓qb_it, ↓qi_ap, ↓reduceIte, ↓qb_qr, ↓qr_ap, ↓qb_gd, ↓gd_ap, ↓qb_so, eu_ap, up_ap, er_ap, eB_ap, uL_ap, ltT, ltF, leT, leF, eqT, eqF, nltT, nltF, nleT, nleF, neqT, neqF, clN, nI_add, pk_mul, pk_sub, divN, remN, lLT, lLF, toL, eq_self, and_self, or_self, or_false, false_or, or_true, true_or, and_true, true_and, and_false, false_and, not_true_eq_false, not_false_eq_true, if_true, if_false, ite_true, ite_false, Nat.reduceAdd, Nat.reduceMul, Nat.reduceSub, Nat.reduceDiv, Nat.reduceMod, Nat.reducePow, Nat.reduceEqDiff, Nat.reduceLT, li_0, li_1, li_2, li_3, li_4, li_5, li_6, li_7, li_8, li_9, li_10, li_11, li_12, li_13, li_15, li_16, li_20, li_25, li_26, li_27, li_29, li_30, li_31, li_32, li_43, li_46, li_48, li_49, li_57, li_59, li_60, li_63, li_89, li_93, li_97, li_99, li_100, li_108, li_110, li_120, li_122, li_125, li_129, li_133, li_200, li_253, li_1000, lo_0, lo_1, lo_10, lo_109103333, lo_12, lo_12343, lo_13, lo_17382886, lo_2, lo_20, lo_20194900, lo_25, lo_255, lo_27, lo_3, lo_31, lo_32, lo_4, lo_4153, lo_5, lo_537076, lo_6, lo_7, lo_8, lo_821, lo_9, lo_97, lo_99, lgE, Nat.gcd_zero_right]
  have step1 : ∀ (N a b : Nat), 0 < b → a < 9223372036854775808 → b < 9223372036854775808 → WX12_divisor_6 (N + 1) (lN a) (lN b) w = WX12_divisor_6 N (lN b) (lN (a % b)) w := by
    intro N a b hb ha hb2
    show UX12_divisor_6 (WX12_divisor_6 N) (lN a) (lN b) w = _
    simp (disch := omega) only [UX12_divisor_6, ↓qb_as, ↓qb_it, ↓qi_ap, ↓reduceIte, ↓qb_qr, ↓qr_ap, ↓qb_gd, ↓gd_ap, ↓qb_so, eu_ap, up_ap, er_ap, eB_ap, uL_ap, ltT, ltF, leT, leF, eqT, eqF, nltT, nltF, nleT, nleF, neqT, neqF, clN, nI_add, pk_mul, pk_sub, divN, remN, lLT, lLF, toL, eq_self, and_self, or_self, or_false, false_or, or_true, true_or, and_true, true_and, and_false, false_and, not_true_eq_false, not_false_eq_true, if_true, if_false, ite_true, ite_false, Nat.reduceAdd, Nat.reduceMul, Nat.reduceSub, Nat.reduceDiv, Nat.reduceMod, Nat.reducePow, Nat.reduceEqDiff, Nat.reduceLT, li_0, li_1, li_2, li_3, li_4, li_5, li_6, li_7, li_8, li_9, li_10, li_11, li_12, li_13, li_15, li_16, li_20, li_25, li_26, li_27, li_29, li_30, li_31, li_32, li_43, li_46, li_48, li_49, li_57, li_59, li_60, li_63, li_89, li_93, li_97, li_99, li_100, li_108, li_110, li_120, li_122, li_125, li_129, li_133, li_200, li_253, li_1000, lo_0, lo_1, lo_10, lo_109103333, lo_12, lo_12343, lo_13, lo_17382886, lo_2, lo_20, lo_20194900, lo_25, lo_255, lo_27, lo_3, lo_31, lo_32, lo_4, lo_4153, lo_5, lo_537076, lo_6, lo_7, lo_8, lo_821, lo_9, lo_97, lo_99, lgE, lEF, lRemN]
  intro m
  induction m with
  | zero =>
    intro N a b hb hN ha hb2
    have e : b = 0 := by have : b < 1 := hb; omega
    subst e
    exact step0 N a (by omega)
  | succ m ih =>
    intro N a b hb hN ha hb2
    by_cases q : b = 0
    · subst q; exact step0 N a (by omega)
    obtain ⟨N, rfl⟩ : ∃ M, N = M + 1 + 1 := ⟨N - 2, by omega⟩
    have hl : a % b < b := Nat.mod_lt _ (by omega)
    rw [step1 (N + 1) a b (by omega) ha hb2, gcd_st a b]
    by_cases q2 : a % b = 0
    · rw [q2]; exact step0 (N + 1) b (by omega)
    · rw [step1 N b (a % b) (by omega) hb2 (by omega), gcd_st b (a % b)]
      have hl2 : b % (a % b) < a % b := Nat.mod_lt _ (by omega)
      exact ih N (a % b) (b % (a % b)) (gcd_half hb (by omega) q2) (by omega) (by omega) (by omega)
theorem ws_lt {n k l : Nat} (hn : n ≤ 10) (hk : k ≤ 12) : ws n k l (k + 1) < 13000000000000000 := by
  have h := ws_le (l := l) hn hk (k + 1) (Nat.le_refl _)
  have h2 : (k + 1) * (924 * 10 ^ 12) ≤ 13 * (924 * 10 ^ 12) := Nat.mul_le_mul_right _ (by omega)
  omega
theorem p10_lt {k : Nat} (hk : k ≤ 12) : 10 ^ k ≤ 1000000000000 := Nat.pow_le_pow_right (n := 10) (by decide) hk
set_option maxRecDepth 100000 in
set_option maxHeartbeats 4000000 in
theorem k_stings (a0 : Int32) (a1 : Int32) (a2 : Int32) (t : Nat) (ht : t < 65) (h : qH) (hI : eInv t h) : eStep eInv (FX11_stings 0 a0 a1 a2) (FX12_stings 61 a0 a1 a2) t h := by
  obtain ⟨S, A, B, f, n, rfl, hI⟩ := hI
  have hI0 := hI
  obtain ⟨hs, hr, hb, hi, ho⟩ := hI
  by_cases q : (nI 0 ≤ a0 ∧ a0 ≤ nI 10) ∧ (nI 0 ≤ a1 ∧ a1 ≤ nI 12) ∧ (nI 0 ≤ a2 ∧ a2 ≤ nI 13)
  · obtain ⟨q0, q1, q2⟩ := q
    obtain ⟨m, -, hm, rfl⟩ := wi_N (by decide) q0 (by decide)
    obtain ⟨k, -, hk, rfl⟩ := wi_N (by decide) q1 (by decide)
    obtain ⟨l, -, hl, rfl⟩ := wi_N (by decide) q2 (by decide)
    have hw := ws_lt (l := l) hm hk
    have hp := p10_lt hk
    have hp0 : 0 < 10 ^ k := Nat.pow_pos (by decide)
    generalize eu : ws m k l (k + 1) = u at hw
    have e1 := fun w => x_ways (l := l) hm hk hl w
    have e2 := fun w => x_power (b := 10) (e := k) (by decide) (by omega) w
    have e3 := fun w => x_gcd1 w 64 0 1000000 (10 ^ k) u (by omega) (by decide) (by decide) (by omega) (by omega)
    have f1 := fun w => y_stung (l := l) hm hk hl w
    have f2 := fun w => y_power (b := 10) (e := k) (by omega) w
    have f3 := fun w => y_gcd1 w 64 1000000 u (10 ^ k) (by omega) (by decide) (by omega) (by omega)
    rw [eu] at e1 f1
    have hg0 : 0 < Nat.gcd (10 ^ k) u := Nat.gcd_pos_of_pos_left _ hp0
    have hg1 : Nat.gcd (10 ^ k) u ≤ 10 ^ k := Nat.gcd_le_left _ hp0
    have hgc : Nat.gcd u (10 ^ k) = Nat.gcd (10 ^ k) u := Nat.gcd_comm _ _
    rw [hgc] at f3
    generalize Nat.gcd (10 ^ k) u = g at e3 f3 hg0 hg1
    have e3' : ∀ w, FX11_commonDivisor (lN (10 ^ k)) (lN u) w = some (lN g, w) := e3
    have f3' : ∀ w, FX12_divisor (lN u) (lN (10 ^ k)) w = some (lN g, w) := f3
    have e2' : ∀ w, FX11_power 10 (nI k) w = some (lN (10 ^ k), w) := e2
    have f2' : ∀ w, FX12_power 10 (nI k) w = some (lN (10 ^ k), w) := f2
    have e2n : ∀ w, FX11_power (nI 10) (nI k) w = some (lN (10 ^ k), w) := e2
    have f2n : ∀ w, FX12_power (lN 10) (nI k) w = some (lN (10 ^ k), w) := f2
    generalize 10 ^ k = p at e2' f2' e2n f2n e3' f3' hp hp0 hg1
    refine eStep_of (A1 := A) (A2 := A) (B1 := eupB (eupB B 0 5 (lN (u / g))) 0 6 (lN (p / g))) (B2 := eupB (eupB (eupB (eupB B 0 5 (lN (u / g))) 0 6 (lN (p / g))) 61 6 (lN (u / g))) 61 7 (lN (p / g))) (f1 := f) (n1 := n) (S2 := S) (nI 1) ?_ ?_ ?_
    · simp (disch := omega) only [FX11_stings, FX11_within, ↓qb_of (e1 _), ↓qb_of (e2' _), ↓qb_of (e2n _), ↓qb_of (e3' _), ↓qb_as, ↓qb_it, ↓qi_ap, ↓reduceIte, ↓qb_qr, ↓qr_ap, ↓qb_gd, ↓gd_ap, ↓qb_so, eu_ap, up_ap, er_ap, eB_ap, uL_ap, ltT, ltF, leT, leF, eqT, eqF, nltT, nltF, nleT, nleF, neqT, neqF, clN, nI_add, pk_mul, pk_sub, divN, remN, lLT, lLF, toL, eq_self, and_self, or_self, or_false, false_or, or_true, true_or, and_true, true_and, and_false, false_and, not_true_eq_false, not_false_eq_true, if_true, if_false, ite_true, ite_false, Nat.reduceAdd, Nat.reduceMul, Nat.reduceSub, Nat.reduceDiv, Nat.reduceMod, Nat.reducePow, Nat.reduceEqDiff, Nat.reduceLT, li_0, li_1, li_2, li_3, li_4, li_5, li_6, li_7, li_8, li_9, li_10, li_11, li_12, li_13, li_15, li_16, li_20, li_25, li_26, li_27, li_29, li_30, li_31, li_32, li_43, li_46, li_48, li_49, li_57, li_59, li_60, li_63, li_89, li_93, li_97, li_99, li_100, li_108, li_110, li_120, li_122, li_125, li_129, li_133, li_200, li_253, li_1000, lo_0, lo_1, lo_10, lo_109103333, lo_12, lo_12343, lo_13, lo_17382886, lo_2, lo_20, lo_20194900, lo_25, lo_255, lo_27, lo_3, lo_31, lo_32, lo_4, lo_4153, lo_5, lo_537076, lo_6, lo_7, lo_8, lo_821, lo_9, lo_97, lo_99, ↓b_cl_0, ↓b_g_0_0, ↓b_g_0_1, ↓b_g_0_2, ↓b_g_0_3, ↓b_g_0_4, ↓b_g_0_5, ↓b_p_0_5, ↓b_g_0_6, ↓b_p_0_6, ↓b_g_0_7, ↓b_p_0_7, ↓b_g_0_8, ↓b_p_0_8, ↓b_g_0_9, ↓b_p_0_9, lgLe, lLeT, lLeF, lEF, lDivN]
    · simp (disch := omega) only [FX12_stings, ↓y_i0_10, ↓y_i0_12, ↓y_i0_13, ↓qb_of (f1 _), ↓qb_of (f2' _), ↓qb_of (f2n _), ↓qb_of (f3' _), ↓qb_as, ↓qb_it, ↓qi_ap, ↓reduceIte, ↓qb_qr, ↓qr_ap, ↓qb_gd, ↓gd_ap, ↓qb_so, eu_ap, up_ap, er_ap, eB_ap, uL_ap, ltT, ltF, leT, leF, eqT, eqF, nltT, nltF, nleT, nleF, neqT, neqF, clN, nI_add, pk_mul, pk_sub, divN, remN, lLT, lLF, toL, eq_self, and_self, or_self, or_false, false_or, or_true, true_or, and_true, true_and, and_false, false_and, not_true_eq_false, not_false_eq_true, if_true, if_false, ite_true, ite_false, Nat.reduceAdd, Nat.reduceMul, Nat.reduceSub, Nat.reduceDiv, Nat.reduceMod, Nat.reducePow, Nat.reduceEqDiff, Nat.reduceLT, li_0, li_1, li_2, li_3, li_4, li_5, li_6, li_7, li_8, li_9, li_10, li_11, li_12, li_13, li_15, li_16, li_20, li_25, li_26, li_27, li_29, li_30, li_31, li_32, li_43, li_46, li_48, li_49, li_57, li_59, li_60, li_63, li_89, li_93, li_97, li_99, li_100, li_108, li_110, li_120, li_122, li_125, li_129, li_133, li_200, li_253, li_1000, lo_0, lo_1, lo_10, lo_109103333, lo_12, lo_12343, lo_13, lo_17382886, lo_2, lo_20, lo_20194900, lo_25, lo_255, lo_27, lo_3, lo_31, lo_32, lo_4, lo_4153, lo_5, lo_537076, lo_6, lo_7, lo_8, lo_821, lo_9, lo_97, lo_99, ↓b_cl_61, ↓b_g_61_0, ↓b_g_61_1, ↓b_g_61_2, ↓b_g_61_3, ↓b_g_61_4, ↓b_g_61_5, ↓b_p_61_5, ↓b_g_61_6, ↓b_p_61_6, ↓b_g_61_7, ↓b_p_61_7, ↓b_g_61_8, ↓b_g_61_9, ↓b_g_61_10, ↓b_g_61_11, ↓b_g_61_12, ↓b_g_61_13, ↓b_g_61_14, ↓b_p_61_14, ↓b_g_61_15, ↓b_p_61_15, ↓b_g_61_16, ↓b_p_61_16, ↓b_g_61_17, ↓b_p_61_17, ↓b_g_61_18, ↓b_p_61_18, ↓b_g_61_19, ↓b_p_61_19, ↓b_g_61_20, ↓b_p_61_20, ↓b_g_61_21, ↓b_g_61_22, ↓b_p_61_22, ↓b_a_62, ↓b_s_62, ↓b_l_62, ↓b_a_63, ↓b_s_63, ↓b_l_63, ↓b_a_64, ↓b_s_64, ↓b_a_65, ↓b_s_65, ↓b_l_65, ↓b_a_66, ↓b_s_66, ↓b_l_66, ↓b_a_67, ↓b_s_67, ↓b_l_67, ↓b_a_68, ↓b_s_68, ↓b_l_68, ↓b_a_69, ↓b_s_69, ↓b_l_69, ↓b_a_70, ↓b_s_70, ↓b_l_70, ↓b_a_71, ↓b_s_71, ↓b_l_71, ↓b_a_72, ↓b_s_72, ↓b_l_72, ↓b_a_73, ↓b_s_73, ↓b_l_73, lEF, lDivN]
    · obtain ⟨hs, hr, hb, hi, ho⟩ := eI_m hI0
      obtain ⟨o1, o2, o3, o4⟩ := ho
      exact ⟨hs, hr, hb, hi, o1, rfl, rfl, o4⟩
  · refine step_bad hI0 0 (by decide) (-nI 2) ?_ (fun A' w1 w2 w3 => ?_)
    · by_cases q0 : nI 0 ≤ a0 ∧ a0 ≤ nI 10
      · by_cases q1 : nI 0 ≤ a1 ∧ a1 ≤ nI 12
        · have q2 : ¬ (nI 0 ≤ a2 ∧ a2 ≤ nI 13) := fun e => q ⟨q0, q1, e⟩
          have q0 := eq_true q0
          have q1 := eq_true q1
          have q2 := eq_false q2
          simp (disch := omega) only [FX11_stings, UX11_stings_30, ↓x_wi, q0, q1, q2, ↓qb_as, ↓qb_it, ↓qi_ap, ↓reduceIte, ↓qb_qr, ↓qr_ap, ↓qb_gd, ↓gd_ap, ↓qb_so, eu_ap, up_ap, er_ap, eB_ap, uL_ap, ltT, ltF, leT, leF, eqT, eqF, nltT, nltF, nleT, nleF, neqT, neqF, clN, nI_add, pk_mul, pk_sub, divN, remN, lLT, lLF, toL, eq_self, and_self, or_self, or_false, false_or, or_true, true_or, and_true, true_and, and_false, false_and, not_true_eq_false, not_false_eq_true, if_true, if_false, ite_true, ite_false, Nat.reduceAdd, Nat.reduceMul, Nat.reduceSub, Nat.reduceDiv, Nat.reduceMod, Nat.reducePow, Nat.reduceEqDiff, Nat.reduceLT, li_0, li_1, li_2, li_3, li_4, li_5, li_6, li_7, li_8, li_9, li_10, li_11, li_12, li_13, li_15, li_16, li_20, li_25, li_26, li_27, li_29, li_30, li_31, li_32, li_43, li_46, li_48, li_49, li_57, li_59, li_60, li_63, li_89, li_93, li_97, li_99, li_100, li_108, li_110, li_120, li_122, li_125, li_129, li_133, li_200, li_253, li_1000, lo_0, lo_1, lo_10, lo_109103333, lo_12, lo_12343, lo_13, lo_17382886, lo_2, lo_20, lo_20194900, lo_25, lo_255, lo_27, lo_3, lo_31, lo_32, lo_4, lo_4153, lo_5, lo_537076, lo_6, lo_7, lo_8, lo_821, lo_9, lo_97, lo_99, ↓b_cl_0, ↓b_g_0_0, ↓b_g_0_1, ↓b_g_0_2, ↓b_g_0_3, ↓b_g_0_4, ↓b_g_0_5, ↓b_p_0_5, ↓b_g_0_6, ↓b_p_0_6, ↓b_g_0_7, ↓b_p_0_7, ↓b_g_0_8, ↓b_p_0_8, ↓b_g_0_9, ↓b_p_0_9, ↓c_bad]
        · have q0 := eq_true q0
          have q1 := eq_false q1
          simp (disch := omega) only [FX11_stings, UX11_stings_30, ↓x_wi, q0, q1, ↓qb_as, ↓qb_it, ↓qi_ap, ↓reduceIte, ↓qb_qr, ↓qr_ap, ↓qb_gd, ↓gd_ap, ↓qb_so, eu_ap, up_ap, er_ap, eB_ap, uL_ap, ltT, ltF, leT, leF, eqT, eqF, nltT, nltF, nleT, nleF, neqT, neqF, clN, nI_add, pk_mul, pk_sub, divN, remN, lLT, lLF, toL, eq_self, and_self, or_self, or_false, false_or, or_true, true_or, and_true, true_and, and_false, false_and, not_true_eq_false, not_false_eq_true, if_true, if_false, ite_true, ite_false, Nat.reduceAdd, Nat.reduceMul, Nat.reduceSub, Nat.reduceDiv, Nat.reduceMod, Nat.reducePow, Nat.reduceEqDiff, Nat.reduceLT, li_0, li_1, li_2, li_3, li_4, li_5, li_6, li_7, li_8, li_9, li_10, li_11, li_12, li_13, li_15, li_16, li_20, li_25, li_26, li_27, li_29, li_30, li_31, li_32, li_43, li_46, li_48, li_49, li_57, li_59, li_60, li_63, li_89, li_93, li_97, li_99, li_100, li_108, li_110, li_120, li_122, li_125, li_129, li_133, li_200, li_253, li_1000, lo_0, lo_1, lo_10, lo_109103333, lo_12, lo_12343, lo_13, lo_17382886, lo_2, lo_20, lo_20194900, lo_25, lo_255, lo_27, lo_3, lo_31, lo_32, lo_4, lo_4153, lo_5, lo_537076, lo_6, lo_7, lo_8, lo_821, lo_9, lo_97, lo_99, ↓b_cl_0, ↓b_g_0_0, ↓b_g_0_1, ↓b_g_0_2, ↓b_g_0_3, ↓b_g_0_4, ↓b_g_0_5, ↓b_p_0_5, ↓b_g_0_6, ↓b_p_0_6, ↓b_g_0_7, ↓b_p_0_7, ↓b_g_0_8, ↓b_p_0_8, ↓b_g_0_9, ↓b_p_0_9, ↓c_bad]
      · have q0 := eq_false q0
        simp (disch := omega) only [FX11_stings, UX11_stings_30, ↓x_wi, q0, ↓qb_as, ↓qb_it, ↓qi_ap, ↓reduceIte, ↓qb_qr, ↓qr_ap, ↓qb_gd, ↓gd_ap, ↓qb_so, eu_ap, up_ap, er_ap, eB_ap, uL_ap, ltT, ltF, leT, leF, eqT, eqF, nltT, nltF, nleT, nleF, neqT, neqF, clN, nI_add, pk_mul, pk_sub, divN, remN, lLT, lLF, toL, eq_self, and_self, or_self, or_false, false_or, or_true, true_or, and_true, true_and, and_false, false_and, not_true_eq_false, not_false_eq_true, if_true, if_false, ite_true, ite_false, Nat.reduceAdd, Nat.reduceMul, Nat.reduceSub, Nat.reduceDiv, Nat.reduceMod, Nat.reducePow, Nat.reduceEqDiff, Nat.reduceLT, li_0, li_1, li_2, li_3, li_4, li_5, li_6, li_7, li_8, li_9, li_10, li_11, li_12, li_13, li_15, li_16, li_20, li_25, li_26, li_27, li_29, li_30, li_31, li_32, li_43, li_46, li_48, li_49, li_57, li_59, li_60, li_63, li_89, li_93, li_97, li_99, li_100, li_108, li_110, li_120, li_122, li_125, li_129, li_133, li_200, li_253, li_1000, lo_0, lo_1, lo_10, lo_109103333, lo_12, lo_12343, lo_13, lo_17382886, lo_2, lo_20, lo_20194900, lo_25, lo_255, lo_27, lo_3, lo_31, lo_32, lo_4, lo_4153, lo_5, lo_537076, lo_6, lo_7, lo_8, lo_821, lo_9, lo_97, lo_99, ↓b_cl_0, ↓b_g_0_0, ↓b_g_0_1, ↓b_g_0_2, ↓b_g_0_3, ↓b_g_0_4, ↓b_g_0_5, ↓b_p_0_5, ↓b_g_0_6, ↓b_p_0_6, ↓b_g_0_7, ↓b_p_0_7, ↓b_g_0_8, ↓b_p_0_8, ↓b_g_0_9, ↓b_p_0_9, ↓c_bad]
    · by_cases q0 : nI 0 ≤ a0 ∧ a0 ≤ nI 10
      · by_cases q1 : nI 0 ≤ a1 ∧ a1 ≤ nI 12
        · have q2 : ¬ (nI 0 ≤ a2 ∧ a2 ≤ nI 13) := fun e => q ⟨q0, q1, e⟩
          have q0 := eq_true q0
          have q1 := eq_true q1
          have q2 := eq_false q2
          simp (disch := omega) only [FX12_stings, UX12_stings_36, ↓y_i0_10, ↓y_i0_12, ↓y_i0_13, q0, q1, q2, ↓qb_as, ↓qb_it, ↓qi_ap, ↓reduceIte, ↓qb_qr, ↓qr_ap, ↓qb_gd, ↓gd_ap, ↓qb_so, eu_ap, up_ap, er_ap, eB_ap, uL_ap, ltT, ltF, leT, leF, eqT, eqF, nltT, nltF, nleT, nleF, neqT, neqF, clN, nI_add, pk_mul, pk_sub, divN, remN, lLT, lLF, toL, eq_self, and_self, or_self, or_false, false_or, or_true, true_or, and_true, true_and, and_false, false_and, not_true_eq_false, not_false_eq_true, if_true, if_false, ite_true, ite_false, Nat.reduceAdd, Nat.reduceMul, Nat.reduceSub, Nat.reduceDiv, Nat.reduceMod, Nat.reducePow, Nat.reduceEqDiff, Nat.reduceLT, li_0, li_1, li_2, li_3, li_4, li_5, li_6, li_7, li_8, li_9, li_10, li_11, li_12, li_13, li_15, li_16, li_20, li_25, li_26, li_27, li_29, li_30, li_31, li_32, li_43, li_46, li_48, li_49, li_57, li_59, li_60, li_63, li_89, li_93, li_97, li_99, li_100, li_108, li_110, li_120, li_122, li_125, li_129, li_133, li_200, li_253, li_1000, lo_0, lo_1, lo_10, lo_109103333, lo_12, lo_12343, lo_13, lo_17382886, lo_2, lo_20, lo_20194900, lo_25, lo_255, lo_27, lo_3, lo_31, lo_32, lo_4, lo_4153, lo_5, lo_537076, lo_6, lo_7, lo_8, lo_821, lo_9, lo_97, lo_99, ↓b_cl_61, ↓b_g_61_0, ↓b_g_61_1, ↓b_g_61_2, ↓b_g_61_3, ↓b_g_61_4, ↓b_g_61_5, ↓b_p_61_5, ↓b_g_61_6, ↓b_p_61_6, ↓b_g_61_7, ↓b_p_61_7, ↓b_g_61_8, ↓b_g_61_9, ↓b_g_61_10, ↓b_g_61_11, ↓b_g_61_12, ↓b_g_61_13, ↓b_g_61_14, ↓b_p_61_14, ↓b_g_61_15, ↓b_p_61_15, ↓b_g_61_16, ↓b_p_61_16, ↓b_g_61_17, ↓b_p_61_17, ↓b_g_61_18, ↓b_p_61_18, ↓b_g_61_19, ↓b_p_61_19, ↓b_g_61_20, ↓b_p_61_20, ↓b_g_61_21, ↓b_g_61_22, ↓b_p_61_22, ↓b_a_62, ↓b_s_62, ↓b_l_62, ↓b_a_63, ↓b_s_63, ↓b_l_63, ↓b_a_64, ↓b_s_64, ↓b_a_65, ↓b_s_65, ↓b_l_65, ↓b_a_66, ↓b_s_66, ↓b_l_66, ↓b_a_67, ↓b_s_67, ↓b_l_67, ↓b_a_68, ↓b_s_68, ↓b_l_68, ↓b_a_69, ↓b_s_69, ↓b_l_69, ↓b_a_70, ↓b_s_70, ↓b_l_70, ↓b_a_71, ↓b_s_71, ↓b_l_71, ↓b_a_72, ↓b_s_72, ↓b_l_72, ↓b_a_73, ↓b_s_73, ↓b_l_73, ↓r_bad A' B f n w1]
        · have q0 := eq_true q0
          have q1 := eq_false q1
          simp (disch := omega) only [FX12_stings, UX12_stings_36, ↓y_i0_10, ↓y_i0_12, ↓y_i0_13, q0, q1, ↓qb_as, ↓qb_it, ↓qi_ap, ↓reduceIte, ↓qb_qr, ↓qr_ap, ↓qb_gd, ↓gd_ap, ↓qb_so, eu_ap, up_ap, er_ap, eB_ap, uL_ap, ltT, ltF, leT, leF, eqT, eqF, nltT, nltF, nleT, nleF, neqT, neqF, clN, nI_add, pk_mul, pk_sub, divN, remN, lLT, lLF, toL, eq_self, and_self, or_self, or_false, false_or, or_true, true_or, and_true, true_and, and_false, false_and, not_true_eq_false, not_false_eq_true, if_true, if_false, ite_true, ite_false, Nat.reduceAdd, Nat.reduceMul, Nat.reduceSub, Nat.reduceDiv, Nat.reduceMod, Nat.reducePow, Nat.reduceEqDiff, Nat.reduceLT, li_0, li_1, li_2, li_3, li_4, li_5, li_6, li_7, li_8, li_9, li_10, li_11, li_12, li_13, li_15, li_16, li_20, li_25, li_26, li_27, li_29, li_30, li_31, li_32, li_43, li_46, li_48, li_49, li_57, li_59, li_60, li_63, li_89, li_93, li_97, li_99, li_100, li_108, li_110, li_120, li_122, li_125, li_129, li_133, li_200, li_253, li_1000, lo_0, lo_1, lo_10, lo_109103333, lo_12, lo_12343, lo_13, lo_17382886, lo_2, lo_20, lo_20194900, lo_25, lo_255, lo_27, lo_3, lo_31, lo_32, lo_4, lo_4153, lo_5, lo_537076, lo_6, lo_7, lo_8, lo_821, lo_9, lo_97, lo_99, ↓b_cl_61, ↓b_g_61_0, ↓b_g_61_1, ↓b_g_61_2, ↓b_g_61_3, ↓b_g_61_4, ↓b_g_61_5, ↓b_p_61_5, ↓b_g_61_6, ↓b_p_61_6, ↓b_g_61_7, ↓b_p_61_7, ↓b_g_61_8, ↓b_g_61_9, ↓b_g_61_10, ↓b_g_61_11, ↓b_g_61_12, ↓b_g_61_13, ↓b_g_61_14, ↓b_p_61_14, ↓b_g_61_15, ↓b_p_61_15, ↓b_g_61_16, ↓b_p_61_16, ↓b_g_61_17, ↓b_p_61_17, ↓b_g_61_18, ↓b_p_61_18, ↓b_g_61_19, ↓b_p_61_19, ↓b_g_61_20, ↓b_p_61_20, ↓b_g_61_21, ↓b_g_61_22, ↓b_p_61_22, ↓b_a_62, ↓b_s_62, ↓b_l_62, ↓b_a_63, ↓b_s_63, ↓b_l_63, ↓b_a_64, ↓b_s_64, ↓b_a_65, ↓b_s_65, ↓b_l_65, ↓b_a_66, ↓b_s_66, ↓b_l_66, ↓b_a_67, ↓b_s_67, ↓b_l_67, ↓b_a_68, ↓b_s_68, ↓b_l_68, ↓b_a_69, ↓b_s_69, ↓b_l_69, ↓b_a_70, ↓b_s_70, ↓b_l_70, ↓b_a_71, ↓b_s_71, ↓b_l_71, ↓b_a_72, ↓b_s_72, ↓b_l_72, ↓b_a_73, ↓b_s_73, ↓b_l_73, ↓r_bad A' B f n w1]
      · have q0 := eq_false q0
        simp (disch := omega) only [FX12_stings, UX12_stings_36, ↓y_i0_10, ↓y_i0_12, ↓y_i0_13, q0, ↓qb_as, ↓qb_it, ↓qi_ap, ↓reduceIte, ↓qb_qr, ↓qr_ap, ↓qb_gd, ↓gd_ap, ↓qb_so, eu_ap, up_ap, er_ap, eB_ap, uL_ap, ltT, ltF, leT, leF, eqT, eqF, nltT, nltF, nleT, nleF, neqT, neqF, clN, nI_add, pk_mul, pk_sub, divN, remN, lLT, lLF, toL, eq_self, and_self, or_self, or_false, false_or, or_true, true_or, and_true, true_and, and_false, false_and, not_true_eq_false, not_false_eq_true, if_true, if_false, ite_true, ite_false, Nat.reduceAdd, Nat.reduceMul, Nat.reduceSub, Nat.reduceDiv, Nat.reduceMod, Nat.reducePow, Nat.reduceEqDiff, Nat.reduceLT, li_0, li_1, li_2, li_3, li_4, li_5, li_6, li_7, li_8, li_9, li_10, li_11, li_12, li_13, li_15, li_16, li_20, li_25, li_26, li_27, li_29, li_30, li_31, li_32, li_43, li_46, li_48, li_49, li_57, li_59, li_60, li_63, li_89, li_93, li_97, li_99, li_100, li_108, li_110, li_120, li_122, li_125, li_129, li_133, li_200, li_253, li_1000, lo_0, lo_1, lo_10, lo_109103333, lo_12, lo_12343, lo_13, lo_17382886, lo_2, lo_20, lo_20194900, lo_25, lo_255, lo_27, lo_3, lo_31, lo_32, lo_4, lo_4153, lo_5, lo_537076, lo_6, lo_7, lo_8, lo_821, lo_9, lo_97, lo_99, ↓b_cl_61, ↓b_g_61_0, ↓b_g_61_1, ↓b_g_61_2, ↓b_g_61_3, ↓b_g_61_4, ↓b_g_61_5, ↓b_p_61_5, ↓b_g_61_6, ↓b_p_61_6, ↓b_g_61_7, ↓b_p_61_7, ↓b_g_61_8, ↓b_g_61_9, ↓b_g_61_10, ↓b_g_61_11, ↓b_g_61_12, ↓b_g_61_13, ↓b_g_61_14, ↓b_p_61_14, ↓b_g_61_15, ↓b_p_61_15, ↓b_g_61_16, ↓b_p_61_16, ↓b_g_61_17, ↓b_p_61_17, ↓b_g_61_18, ↓b_p_61_18, ↓b_g_61_19, ↓b_p_61_19, ↓b_g_61_20, ↓b_p_61_20, ↓b_g_61_21, ↓b_g_61_22, ↓b_p_61_22, ↓b_a_62, ↓b_s_62, ↓b_l_62, ↓b_a_63, ↓b_s_63, ↓b_l_63, ↓b_a_64, ↓b_s_64, ↓b_a_65, ↓b_s_65, ↓b_l_65, ↓b_a_66, ↓b_s_66, ↓b_l_66, ↓b_a_67, ↓b_s_67, ↓b_l_67, ↓b_a_68, ↓b_s_68, ↓b_l_68, ↓b_a_69, ↓b_s_69, ↓b_l_69, ↓b_a_70, ↓b_s_70, ↓b_l_70, ↓b_a_71, ↓b_s_71, ↓b_l_71, ↓b_a_72, ↓b_s_72, ↓b_l_72, ↓b_a_73, ↓b_s_73, ↓b_l_73, ↓r_bad A' B f n w1]
/-! surest -/
def gSp (q : Nat → Prop) (v : Int32) : Prop := (v = -nI 1 ∧ ∀ k, k ≤ 12 → ¬ q k) ∨ ∃ k, k ≤ 12 ∧ v = nI k ∧ q k ∧ ∀ j, k < j → j ≤ 12 → ¬ q j
theorem gSp_u {q : Nat → Prop} {v v' : Int32} (h : gSp q v) (h' : gSp q v') : v = v' := by
  rcases h with ⟨e, h⟩ | ⟨k, h1, e, h2, h3⟩ <;> rcases h' with ⟨e', h'⟩ | ⟨k', h1', e', h2', h3'⟩
  · rw [e, e']
  · exact absurd h2' (h k' h1')
  · exact absurd h2 (h' k h1)
  · rcases Nat.lt_trichotomy k k' with q | q | q
    · exact absurd h2' (h3 k' q h1')
    · rw [e, e', q]
    · exact absurd h2 (h3' k q h1)
def qS1 (n l a b k : Nat) : Prop := 10 ^ k * a ≤ ws n k l (k + 1) * b
theorem ws_b {n k l b : Nat} (hn : n ≤ 10) (hk : k ≤ 12) (hb : b ≤ 99) : ws n k l (k + 1) * b < 9223372036854775808 := by
  have h1 := ws_lt (l := l) hn hk
  have h2 : ws n k l (k + 1) * b ≤ 13000000000000000 * 99 := Nat.mul_le_mul (by omega) hb
  omega
theorem p10_b {k a : Nat} (hk : k ≤ 12) (ha : a ≤ 99) : 10 ^ k * a < 9223372036854775808 := by
  have h2 : 10 ^ k * a ≤ 1000000000000 * 99 := Nat.mul_le_mul (p10_lt hk) ha
  omega
set_option maxHeartbeats 1000000 in
theorem x_sur {n l a b : Nat} (hn : n ≤ 10) (hl : l ≤ 13) (hb : b ≤ 99) (ha : a ≤ 99) (w : qH) : ∀ (d N : Nat), d ≤ 13 → d < N → (∀ j, d ≤ j → j ≤ 12 → ¬ qS1 n l a b j) → ∃ v, WX11_surest_64 N (nI n) (nI l) (nI a) (nI b) (dn d) w = some (v, w) ∧ gSp (qS1 n l a b) v := by
  intro d
  induction d with
  | zero =>
    intro N hd hN hp
    obtain ⟨N, rfl⟩ : ∃ M, N = M + 1 := ⟨N - 1, by omega⟩
    refine ⟨-nI 1, ?_, Or.inl ⟨rfl, fun k hk => hp k (Nat.zero_le _) hk⟩⟩
    show UX11_surest_64 (WX11_surest_64 N) (nI n) (nI l) (nI a) (nI b) (-nI 1) w = _
    simp (disch := omega) only [UX11_surest_64, ↓qb_as, ↓qb_it, ↓qi_ap, ↓reduceIte, ↓qb_qr, ↓qr_ap, ↓qb_gd, ↓gd_ap, ↓qb_so, eu_ap, up_ap, er_ap, eB_ap, uL_ap, ltT, ltF, leT, leF, eqT, eqF, nltT, nltF, nleT, nleF, neqT, neqF, clN, nI_add, pk_mul, pk_sub, divN, remN, lLT, lLF, toL, eq_self, and_self, or_self, or_false, false_or, or_true, true_or, and_true, true_and, and_false, false_and, not_true_eq_false, not_false_eq_true, if_true, if_false, ite_true, ite_false, Nat.reduceAdd, Nat.reduceMul, Nat.reduceSub, Nat.reduceDiv, Nat.reduceMod, Nat.reducePow, Nat.reduceEqDiff, Nat.reduceLT, li_0, li_1, li_2, li_3, li_4, li_5, li_6, li_7, li_8, li_9, li_10, li_11, li_12, li_13, li_15, li_16, li_20, li_25, li_26, li_27, li_29, li_30, li_31, li_32, li_43, li_46, li_48, li_49, li_57, li_59, li_60, li_63, li_89, li_93, li_97, li_99, li_100, li_108, li_110, li_120, li_122, li_125, li_129, li_133, li_200, li_253, li_1000, lo_0, lo_1, lo_10, lo_109103333, lo_12, lo_12343, lo_13, lo_17382886, lo_2, lo_20, lo_20194900, lo_25, lo_255, lo_27, lo_3, lo_31, lo_32, lo_4, lo_4153, lo_5, lo_537076, lo_6, lo_7, lo_8, lo_821, lo_9, lo_97, lo_99, m1lt]
  | succ d ih =>
    intro N hd hN hp
    obtain ⟨N, rfl⟩ : ∃ M, N = M + 1 := ⟨N - 1, by omega⟩
    have e1 := x_ways (l := l) hn (show d ≤ 12 by omega) hl w
    have e2 : FX11_power 10 (nI d) w = some (lN (10 ^ d), w) := x_power (b := 10) (e := d) (by decide) (by omega) w
    have b1 := ws_b (l := l) (b := b) hn (show d ≤ 12 by omega) hb
    have b2 := p10_b (a := a) (show d ≤ 12 by omega) ha
    show ∃ v, UX11_surest_64 (WX11_surest_64 N) (nI n) (nI l) (nI a) (nI b) (nI d) w = _ ∧ _
    by_cases q : qS1 n l a b d
    · refine ⟨nI d, ?_, Or.inr ⟨d, by omega, rfl, q, fun j h1 h2 => hp j (by omega) h2⟩⟩
      unfold qS1 at q
      have hlt : (lN (ws n d l (d + 1) * b) < lN (10 ^ d * a)) = False := lLF q b1
      simp (disch := omega) only [UX11_surest_64, ↓qb_as, ↓qb_it, ↓qi_ap, ↓reduceIte, ↓qb_qr, ↓qr_ap, ↓qb_gd, ↓gd_ap, ↓qb_so, eu_ap, up_ap, er_ap, eB_ap, uL_ap, ltT, ltF, leT, leF, eqT, eqF, nltT, nltF, nleT, nleF, neqT, neqF, clN, nI_add, pk_mul, pk_sub, divN, remN, lLT, lLF, toL, eq_self, and_self, or_self, or_false, false_or, or_true, true_or, and_true, true_and, and_false, false_and, not_true_eq_false, not_false_eq_true, if_true, if_false, ite_true, ite_false, Nat.reduceAdd, Nat.reduceMul, Nat.reduceSub, Nat.reduceDiv, Nat.reduceMod, Nat.reducePow, Nat.reduceEqDiff, Nat.reduceLT, li_0, li_1, li_2, li_3, li_4, li_5, li_6, li_7, li_8, li_9, li_10, li_11, li_12, li_13, li_15, li_16, li_20, li_25, li_26, li_27, li_29, li_30, li_31, li_32, li_43, li_46, li_48, li_49, li_57, li_59, li_60, li_63, li_89, li_93, li_97, li_99, li_100, li_108, li_110, li_120, li_122, li_125, li_129, li_133, li_200, li_253, li_1000, lo_0, lo_1, lo_10, lo_109103333, lo_12, lo_12343, lo_13, lo_17382886, lo_2, lo_20, lo_20194900, lo_25, lo_255, lo_27, lo_3, lo_31, lo_32, lo_4, lo_4153, lo_5, lo_537076, lo_6, lo_7, lo_8, lo_821, lo_9, lo_97, lo_99, ↓qb_of e1, ↓qb_of e2, lgL, lN_mul, hlt]
    · obtain ⟨v, e, g⟩ := ih N (by omega) (by omega) (fun j h1 h2 => by
        by_cases q2 : j = d
        · subst q2; exact q
        · exact hp j (by omega) h2)
      refine ⟨v, ?_, g⟩
      unfold qS1 at q
      have hlt : (lN (ws n d l (d + 1) * b) < lN (10 ^ d * a)) = True := lLT (by omega) b2
      simp (disch := omega) only [UX11_surest_64, ↓qb_as, ↓qb_it, ↓qi_ap, ↓reduceIte, ↓qb_qr, ↓qr_ap, ↓qb_gd, ↓gd_ap, ↓qb_so, eu_ap, up_ap, er_ap, eB_ap, uL_ap, ltT, ltF, leT, leF, eqT, eqF, nltT, nltF, nleT, nleF, neqT, neqF, clN, nI_add, pk_mul, pk_sub, divN, remN, lLT, lLF, toL, eq_self, and_self, or_self, or_false, false_or, or_true, true_or, and_true, true_and, and_false, false_and, not_true_eq_false, not_false_eq_true, if_true, if_false, ite_true, ite_false, Nat.reduceAdd, Nat.reduceMul, Nat.reduceSub, Nat.reduceDiv, Nat.reduceMod, Nat.reducePow, Nat.reduceEqDiff, Nat.reduceLT, li_0, li_1, li_2, li_3, li_4, li_5, li_6, li_7, li_8, li_9, li_10, li_11, li_12, li_13, li_15, li_16, li_20, li_25, li_26, li_27, li_29, li_30, li_31, li_32, li_43, li_46, li_48, li_49, li_57, li_59, li_60, li_63, li_89, li_93, li_97, li_99, li_100, li_108, li_110, li_120, li_122, li_125, li_129, li_133, li_200, li_253, li_1000, lo_0, lo_1, lo_10, lo_109103333, lo_12, lo_12343, lo_13, lo_17382886, lo_2, lo_20, lo_20194900, lo_25, lo_255, lo_27, lo_3, lo_31, lo_32, lo_4, lo_4153, lo_5, lo_537076, lo_6, lo_7, lo_8, lo_821, lo_9, lo_97, lo_99, ↓qb_of e1, ↓qb_of e2, lgL, lN_mul, hlt, dn_s]
      exact e
set_option maxHeartbeats 1000000 in
theorem y_sur {n l a b : Nat} (hn : n ≤ 10) (hl : l ≤ 13) (hb : b ≤ 99) (ha : a ≤ 99) (w : qH) : ∀ (d k N : Nat) (v : Int32), k + d = 13 → d < N → ((v = -nI 1 ∧ ∀ j, j < k → ¬ qS1 n l a b j) ∨ ∃ x, x < k ∧ v = nI x ∧ qS1 n l a b x ∧ ∀ j, x < j → j < k → ¬ qS1 n l a b j) → ∃ v', WX12_surest_60 N (nI n) (nI l) (nI a) (nI b) v (nI k) w = some (v', w) ∧ gSp (qS1 n l a b) v' := by
  intro d
  induction d with
  | zero =>
    intro k N v hk hN hv
    obtain ⟨N, rfl⟩ : ∃ M, N = M + 1 := ⟨N - 1, by omega⟩
    refine ⟨v, ?_, ?_⟩
    · show UX12_surest_60 (WX12_surest_60 N) (nI n) (nI l) (nI a) (nI b) v (nI k) w = _
      simp (disch := omega) only [UX12_surest_60, ↓qb_as, ↓qb_it, ↓qi_ap, ↓reduceIte, ↓qb_qr, ↓qr_ap, ↓qb_gd, ↓gd_ap, ↓qb_so, eu_ap, up_ap, er_ap, eB_ap, uL_ap, ltT, ltF, leT, leF, eqT, eqF, nltT, nltF, nleT, nleF, neqT, neqF, clN, nI_add, pk_mul, pk_sub, divN, remN, lLT, lLF, toL, eq_self, and_self, or_self, or_false, false_or, or_true, true_or, and_true, true_and, and_false, false_and, not_true_eq_false, not_false_eq_true, if_true, if_false, ite_true, ite_false, Nat.reduceAdd, Nat.reduceMul, Nat.reduceSub, Nat.reduceDiv, Nat.reduceMod, Nat.reducePow, Nat.reduceEqDiff, Nat.reduceLT, li_0, li_1, li_2, li_3, li_4, li_5, li_6, li_7, li_8, li_9, li_10, li_11, li_12, li_13, li_15, li_16, li_20, li_25, li_26, li_27, li_29, li_30, li_31, li_32, li_43, li_46, li_48, li_49, li_57, li_59, li_60, li_63, li_89, li_93, li_97, li_99, li_100, li_108, li_110, li_120, li_122, li_125, li_129, li_133, li_200, li_253, li_1000, lo_0, lo_1, lo_10, lo_109103333, lo_12, lo_12343, lo_13, lo_17382886, lo_2, lo_20, lo_20194900, lo_25, lo_255, lo_27, lo_3, lo_31, lo_32, lo_4, lo_4153, lo_5, lo_537076, lo_6, lo_7, lo_8, lo_821, lo_9, lo_97, lo_99]
    · rcases hv with ⟨e, g⟩ | ⟨x, h1, h2, h3, h4⟩
      · exact Or.inl ⟨e, fun j hj => g j (by omega)⟩
      · exact Or.inr ⟨x, by omega, h2, h3, fun j h5 h6 => h4 j h5 (by omega)⟩
  | succ d ih =>
    intro k N v hk hN hv
    obtain ⟨N, rfl⟩ : ∃ M, N = M + 1 := ⟨N - 1, by omega⟩
    have e1 := y_stung (l := l) hn (show k ≤ 12 by omega) hl w
    have e2 : FX12_power 10 (nI k) w = some (lN (10 ^ k), w) := y_power (b := 10) (e := k) (by omega) w
    have b1 := ws_b (l := l) (b := b) hn (show k ≤ 12 by omega) hb
    have b2 := p10_b (a := a) (show k ≤ 12 by omega) ha
    rw [Nat.mul_comm] at b2
    show ∃ v', UX12_surest_60 (WX12_surest_60 N) (nI n) (nI l) (nI a) (nI b) v (nI k) w = _ ∧ _
    by_cases q : qS1 n l a b k
    · obtain ⟨v', e, g⟩ := ih (k + 1) N (nI k) (by omega) (by omega) (Or.inr ⟨k, by omega, rfl, q, fun j h1 h2 => by omega⟩)
      refine ⟨v', ?_, g⟩
      unfold qS1 at q
      rw [Nat.mul_comm (10 ^ k)] at q
      have hlt : (lN (ws n k l (k + 1) * b) < lN (a * 10 ^ k)) = False := lLF q b1
      simp (disch := omega) only [UX12_surest_60, ↓qb_as, ↓qb_it, ↓qi_ap, ↓reduceIte, ↓qb_qr, ↓qr_ap, ↓qb_gd, ↓gd_ap, ↓qb_so, eu_ap, up_ap, er_ap, eB_ap, uL_ap, ltT, ltF, leT, leF, eqT, eqF, nltT, nltF, nleT, nleF, neqT, neqF, clN, nI_add, pk_mul, pk_sub, divN, remN, lLT, lLF, toL, eq_self, and_self, or_self, or_false, false_or, or_true, true_or, and_true, true_and, and_false, false_and, not_true_eq_false, not_false_eq_true, if_true, if_false, ite_true, ite_false, Nat.reduceAdd, Nat.reduceMul, Nat.reduceSub, Nat.reduceDiv, Nat.reduceMod, Nat.reducePow, Nat.reduceEqDiff, Nat.reduceLT, li_0, li_1, li_2, li_3, li_4, li_5, li_6, li_7, li_8, li_9, li_10, li_11, li_12, li_13, li_15, li_16, li_20, li_25, li_26, li_27, li_29, li_30, li_31, li_32, li_43, li_46, li_48, li_49, li_57, li_59, li_60, li_63, li_89, li_93, li_97, li_99, li_100, li_108, li_110, li_120, li_122, li_125, li_129, li_133, li_200, li_253, li_1000, lo_0, lo_1, lo_10, lo_109103333, lo_12, lo_12343, lo_13, lo_17382886, lo_2, lo_20, lo_20194900, lo_25, lo_255, lo_27, lo_3, lo_31, lo_32, lo_4, lo_4153, lo_5, lo_537076, lo_6, lo_7, lo_8, lo_821, lo_9, lo_97, lo_99, ↓qb_of e1, ↓qb_of e2, lgL, lN_mul, hlt]
      exact e
    · obtain ⟨v', e, g⟩ := ih (k + 1) N v (by omega) (by omega) (by
        rcases hv with ⟨e, g⟩ | ⟨x, h1, h2, h3, h4⟩
        · refine Or.inl ⟨e, fun j hj => ?_⟩
          by_cases q2 : j = k
          · subst q2; exact q
          · exact g j (by omega)
        · refine Or.inr ⟨x, by omega, h2, h3, fun j h5 h6 => ?_⟩
          by_cases q2 : j = k
          · subst q2; exact q
          · exact h4 j h5 (by omega))
      refine ⟨v', ?_, g⟩
      unfold qS1 at q
      rw [Nat.mul_comm (10 ^ k)] at q
      have hlt : (lN (ws n k l (k + 1) * b) < lN (a * 10 ^ k)) = True := lLT (by omega) b2
      simp (disch := omega) only [UX12_surest_60, ↓qb_as, ↓qb_it, ↓qi_ap, ↓reduceIte, ↓qb_qr, ↓qr_ap, ↓qb_gd, ↓gd_ap, ↓qb_so, eu_ap, up_ap, er_ap, eB_ap, uL_ap, ltT, ltF, leT, leF, eqT, eqF, nltT, nltF, nleT, nleF, neqT, neqF, clN, nI_add, pk_mul, pk_sub, divN, remN, lLT, lLF, toL, eq_self, and_self, or_self, or_false, false_or, or_true, true_or, and_true, true_and, and_false, false_and, not_true_eq_false, not_false_eq_true, if_true, if_false, ite_true, ite_false, Nat.reduceAdd, Nat.reduceMul, Nat.reduceSub, Nat.reduceDiv, Nat.reduceMod, Nat.reducePow, Nat.reduceEqDiff, Nat.reduceLT, li_0, li_1, li_2, li_3, li_4, li_5, li_6, li_7, li_8, li_9, li_10, li_11, li_12, li_13, li_15, li_16, li_20, li_25, li_26, li_27, li_29, li_30, li_31, li_32, li_43, li_46, li_48, li_49, li_57, li_59, li_60, li_63, li_89, li_93, li_97, li_99, li_100, li_108, li_110, li_120, li_122, li_125, li_129, li_133, li_200, li_253, li_1000, lo_0, lo_1, lo_10, lo_109103333, lo_12, lo_12343, lo_13, lo_17382886, lo_2, lo_20, lo_20194900, lo_25, lo_255, lo_27, lo_3, lo_31, lo_32, lo_4, lo_4153, lo_5, lo_537076, lo_6, lo_7, lo_8, lo_821, lo_9, lo_97, lo_99, ↓qb_of e1, ↓qb_of e2, lgL, lN_mul, hlt]
      exact e
set_option maxRecDepth 100000 in
set_option maxHeartbeats 4000000 in
theorem k_surest (a0 : Int32) (a1 : Int32) (a2 : Int32) (a3 : Int32) (t : Nat) (ht : t < 65) (h : qH) (hI : eInv t h) : eStep eInv (FX11_surest 0 a0 a1 a2 a3) (FX12_surest 61 a0 a1 a2 a3) t h := by
  obtain ⟨S, A, B, f, n, rfl, hI⟩ := hI
  have hI0 := hI
  obtain ⟨hs, hr, hb, hi, ho⟩ := hI
  by_cases q0 : nI 0 ≤ a0 ∧ a0 ≤ nI 10
  rotate_left
  · have q0 := eq_false q0
    refine step_bad hI0 0 (by decide) (-nI 2) ?_ (fun A' w1 w2 w3 => ?_)
    · simp (disch := omega) only [FX11_surest, UX11_surest_25, UX11_surest_53, ↓x_wi, q0, ↓qb_as, ↓qb_it, ↓qi_ap, ↓reduceIte, ↓qb_qr, ↓qr_ap, ↓qb_gd, ↓gd_ap, ↓qb_so, eu_ap, up_ap, er_ap, eB_ap, uL_ap, ltT, ltF, leT, leF, eqT, eqF, nltT, nltF, nleT, nleF, neqT, neqF, clN, nI_add, pk_mul, pk_sub, divN, remN, lLT, lLF, toL, eq_self, and_self, or_self, or_false, false_or, or_true, true_or, and_true, true_and, and_false, false_and, not_true_eq_false, not_false_eq_true, if_true, if_false, ite_true, ite_false, Nat.reduceAdd, Nat.reduceMul, Nat.reduceSub, Nat.reduceDiv, Nat.reduceMod, Nat.reducePow, Nat.reduceEqDiff, Nat.reduceLT, li_0, li_1, li_2, li_3, li_4, li_5, li_6, li_7, li_8, li_9, li_10, li_11, li_12, li_13, li_15, li_16, li_20, li_25, li_26, li_27, li_29, li_30, li_31, li_32, li_43, li_46, li_48, li_49, li_57, li_59, li_60, li_63, li_89, li_93, li_97, li_99, li_100, li_108, li_110, li_120, li_122, li_125, li_129, li_133, li_200, li_253, li_1000, lo_0, lo_1, lo_10, lo_109103333, lo_12, lo_12343, lo_13, lo_17382886, lo_2, lo_20, lo_20194900, lo_25, lo_255, lo_27, lo_3, lo_31, lo_32, lo_4, lo_4153, lo_5, lo_537076, lo_6, lo_7, lo_8, lo_821, lo_9, lo_97, lo_99, ↓b_cl_0, ↓b_g_0_0, ↓b_g_0_1, ↓b_g_0_2, ↓b_g_0_3, ↓b_g_0_4, ↓b_g_0_5, ↓b_p_0_5, ↓b_g_0_6, ↓b_p_0_6, ↓b_g_0_7, ↓b_p_0_7, ↓b_g_0_8, ↓b_p_0_8, ↓b_g_0_9, ↓b_p_0_9, ↓c_bad]
    · simp (disch := omega) only [FX12_surest, UX12_surest_49, ↓y_i0_10, q0, ↓qb_as, ↓qb_it, ↓qi_ap, ↓reduceIte, ↓qb_qr, ↓qr_ap, ↓qb_gd, ↓gd_ap, ↓qb_so, eu_ap, up_ap, er_ap, eB_ap, uL_ap, ltT, ltF, leT, leF, eqT, eqF, nltT, nltF, nleT, nleF, neqT, neqF, clN, nI_add, pk_mul, pk_sub, divN, remN, lLT, lLF, toL, eq_self, and_self, or_self, or_false, false_or, or_true, true_or, and_true, true_and, and_false, false_and, not_true_eq_false, not_false_eq_true, if_true, if_false, ite_true, ite_false, Nat.reduceAdd, Nat.reduceMul, Nat.reduceSub, Nat.reduceDiv, Nat.reduceMod, Nat.reducePow, Nat.reduceEqDiff, Nat.reduceLT, li_0, li_1, li_2, li_3, li_4, li_5, li_6, li_7, li_8, li_9, li_10, li_11, li_12, li_13, li_15, li_16, li_20, li_25, li_26, li_27, li_29, li_30, li_31, li_32, li_43, li_46, li_48, li_49, li_57, li_59, li_60, li_63, li_89, li_93, li_97, li_99, li_100, li_108, li_110, li_120, li_122, li_125, li_129, li_133, li_200, li_253, li_1000, lo_0, lo_1, lo_10, lo_109103333, lo_12, lo_12343, lo_13, lo_17382886, lo_2, lo_20, lo_20194900, lo_25, lo_255, lo_27, lo_3, lo_31, lo_32, lo_4, lo_4153, lo_5, lo_537076, lo_6, lo_7, lo_8, lo_821, lo_9, lo_97, lo_99, ↓b_cl_61, ↓b_g_61_0, ↓b_g_61_1, ↓b_g_61_2, ↓b_g_61_3, ↓b_g_61_4, ↓b_g_61_5, ↓b_p_61_5, ↓b_g_61_6, ↓b_p_61_6, ↓b_g_61_7, ↓b_p_61_7, ↓b_g_61_8, ↓b_g_61_9, ↓b_g_61_10, ↓b_g_61_11, ↓b_g_61_12, ↓b_g_61_13, ↓b_g_61_14, ↓b_p_61_14, ↓b_g_61_15, ↓b_p_61_15, ↓b_g_61_16, ↓b_p_61_16, ↓b_g_61_17, ↓b_p_61_17, ↓b_g_61_18, ↓b_p_61_18, ↓b_g_61_19, ↓b_p_61_19, ↓b_g_61_20, ↓b_p_61_20, ↓b_g_61_21, ↓b_g_61_22, ↓b_p_61_22, ↓b_a_62, ↓b_s_62, ↓b_l_62, ↓b_a_63, ↓b_s_63, ↓b_l_63, ↓b_a_64, ↓b_s_64, ↓b_a_65, ↓b_s_65, ↓b_l_65, ↓b_a_66, ↓b_s_66, ↓b_l_66, ↓b_a_67, ↓b_s_67, ↓b_l_67, ↓b_a_68, ↓b_s_68, ↓b_l_68, ↓b_a_69, ↓b_s_69, ↓b_l_69, ↓b_a_70, ↓b_s_70, ↓b_l_70, ↓b_a_71, ↓b_s_71, ↓b_l_71, ↓b_a_72, ↓b_s_72, ↓b_l_72, ↓b_a_73, ↓b_s_73, ↓b_l_73, ↓r_bad A' B f n w1]
  by_cases q1 : nI 0 ≤ a1 ∧ a1 ≤ nI 13
  rotate_left
  · have q0 := eq_true q0
    have q1 := eq_false q1
    refine step_bad hI0 0 (by decide) (-nI 2) ?_ (fun A' w1 w2 w3 => ?_)
    · simp (disch := omega) only [FX11_surest, UX11_surest_25, UX11_surest_53, ↓x_wi, q0, q1, ↓qb_as, ↓qb_it, ↓qi_ap, ↓reduceIte, ↓qb_qr, ↓qr_ap, ↓qb_gd, ↓gd_ap, ↓qb_so, eu_ap, up_ap, er_ap, eB_ap, uL_ap, ltT, ltF, leT, leF, eqT, eqF, nltT, nltF, nleT, nleF, neqT, neqF, clN, nI_add, pk_mul, pk_sub, divN, remN, lLT, lLF, toL, eq_self, and_self, or_self, or_false, false_or, or_true, true_or, and_true, true_and, and_false, false_and, not_true_eq_false, not_false_eq_true, if_true, if_false, ite_true, ite_false, Nat.reduceAdd, Nat.reduceMul, Nat.reduceSub, Nat.reduceDiv, Nat.reduceMod, Nat.reducePow, Nat.reduceEqDiff, Nat.reduceLT, li_0, li_1, li_2, li_3, li_4, li_5, li_6, li_7, li_8, li_9, li_10, li_11, li_12, li_13, li_15, li_16, li_20, li_25, li_26, li_27, li_29, li_30, li_31, li_32, li_43, li_46, li_48, li_49, li_57, li_59, li_60, li_63, li_89, li_93, li_97, li_99, li_100, li_108, li_110, li_120, li_122, li_125, li_129, li_133, li_200, li_253, li_1000, lo_0, lo_1, lo_10, lo_109103333, lo_12, lo_12343, lo_13, lo_17382886, lo_2, lo_20, lo_20194900, lo_25, lo_255, lo_27, lo_3, lo_31, lo_32, lo_4, lo_4153, lo_5, lo_537076, lo_6, lo_7, lo_8, lo_821, lo_9, lo_97, lo_99, ↓b_cl_0, ↓b_g_0_0, ↓b_g_0_1, ↓b_g_0_2, ↓b_g_0_3, ↓b_g_0_4, ↓b_g_0_5, ↓b_p_0_5, ↓b_g_0_6, ↓b_p_0_6, ↓b_g_0_7, ↓b_p_0_7, ↓b_g_0_8, ↓b_p_0_8, ↓b_g_0_9, ↓b_p_0_9, ↓c_bad]
    · simp (disch := omega) only [FX12_surest, UX12_surest_49, ↓y_i0_10, ↓y_i0_13, q0, q1, ↓qb_as, ↓qb_it, ↓qi_ap, ↓reduceIte, ↓qb_qr, ↓qr_ap, ↓qb_gd, ↓gd_ap, ↓qb_so, eu_ap, up_ap, er_ap, eB_ap, uL_ap, ltT, ltF, leT, leF, eqT, eqF, nltT, nltF, nleT, nleF, neqT, neqF, clN, nI_add, pk_mul, pk_sub, divN, remN, lLT, lLF, toL, eq_self, and_self, or_self, or_false, false_or, or_true, true_or, and_true, true_and, and_false, false_and, not_true_eq_false, not_false_eq_true, if_true, if_false, ite_true, ite_false, Nat.reduceAdd, Nat.reduceMul, Nat.reduceSub, Nat.reduceDiv, Nat.reduceMod, Nat.reducePow, Nat.reduceEqDiff, Nat.reduceLT, li_0, li_1, li_2, li_3, li_4, li_5, li_6, li_7, li_8, li_9, li_10, li_11, li_12, li_13, li_15, li_16, li_20, li_25, li_26, li_27, li_29, li_30, li_31, li_32, li_43, li_46, li_48, li_49, li_57, li_59, li_60, li_63, li_89, li_93, li_97, li_99, li_100, li_108, li_110, li_120, li_122, li_125, li_129, li_133, li_200, li_253, li_1000, lo_0, lo_1, lo_10, lo_109103333, lo_12, lo_12343, lo_13, lo_17382886, lo_2, lo_20, lo_20194900, lo_25, lo_255, lo_27, lo_3, lo_31, lo_32, lo_4, lo_4153, lo_5, lo_537076, lo_6, lo_7, lo_8, lo_821, lo_9, lo_97, lo_99, ↓b_cl_61, ↓b_g_61_0, ↓b_g_61_1, ↓b_g_61_2, ↓b_g_61_3, ↓b_g_61_4, ↓b_g_61_5, ↓b_p_61_5, ↓b_g_61_6, ↓b_p_61_6, ↓b_g_61_7, ↓b_p_61_7, ↓b_g_61_8, ↓b_g_61_9, ↓b_g_61_10, ↓b_g_61_11, ↓b_g_61_12, ↓b_g_61_13, ↓b_g_61_14, ↓b_p_61_14, ↓b_g_61_15, ↓b_p_61_15, ↓b_g_61_16, ↓b_p_61_16, ↓b_g_61_17, ↓b_p_61_17, ↓b_g_61_18, ↓b_p_61_18, ↓b_g_61_19, ↓b_p_61_19, ↓b_g_61_20, ↓b_p_61_20, ↓b_g_61_21, ↓b_g_61_22, ↓b_p_61_22, ↓b_a_62, ↓b_s_62, ↓b_l_62, ↓b_a_63, ↓b_s_63, ↓b_l_63, ↓b_a_64, ↓b_s_64, ↓b_a_65, ↓b_s_65, ↓b_l_65, ↓b_a_66, ↓b_s_66, ↓b_l_66, ↓b_a_67, ↓b_s_67, ↓b_l_67, ↓b_a_68, ↓b_s_68, ↓b_l_68, ↓b_a_69, ↓b_s_69, ↓b_l_69, ↓b_a_70, ↓b_s_70, ↓b_l_70, ↓b_a_71, ↓b_s_71, ↓b_l_71, ↓b_a_72, ↓b_s_72, ↓b_l_72, ↓b_a_73, ↓b_s_73, ↓b_l_73, ↓r_bad A' B f n w1]
  by_cases q2 : nI 1 ≤ a3 ∧ a3 ≤ nI 99
  rotate_left
  · have q0 := eq_true q0
    have q1 := eq_true q1
    have q2 := eq_false q2
    refine step_bad hI0 0 (by decide) (-nI 2) ?_ (fun A' w1 w2 w3 => ?_)
    · simp (disch := omega) only [FX11_surest, UX11_surest_25, UX11_surest_53, ↓x_wi, q0, q1, q2, ↓qb_as, ↓qb_it, ↓qi_ap, ↓reduceIte, ↓qb_qr, ↓qr_ap, ↓qb_gd, ↓gd_ap, ↓qb_so, eu_ap, up_ap, er_ap, eB_ap, uL_ap, ltT, ltF, leT, leF, eqT, eqF, nltT, nltF, nleT, nleF, neqT, neqF, clN, nI_add, pk_mul, pk_sub, divN, remN, lLT, lLF, toL, eq_self, and_self, or_self, or_false, false_or, or_true, true_or, and_true, true_and, and_false, false_and, not_true_eq_false, not_false_eq_true, if_true, if_false, ite_true, ite_false, Nat.reduceAdd, Nat.reduceMul, Nat.reduceSub, Nat.reduceDiv, Nat.reduceMod, Nat.reducePow, Nat.reduceEqDiff, Nat.reduceLT, li_0, li_1, li_2, li_3, li_4, li_5, li_6, li_7, li_8, li_9, li_10, li_11, li_12, li_13, li_15, li_16, li_20, li_25, li_26, li_27, li_29, li_30, li_31, li_32, li_43, li_46, li_48, li_49, li_57, li_59, li_60, li_63, li_89, li_93, li_97, li_99, li_100, li_108, li_110, li_120, li_122, li_125, li_129, li_133, li_200, li_253, li_1000, lo_0, lo_1, lo_10, lo_109103333, lo_12, lo_12343, lo_13, lo_17382886, lo_2, lo_20, lo_20194900, lo_25, lo_255, lo_27, lo_3, lo_31, lo_32, lo_4, lo_4153, lo_5, lo_537076, lo_6, lo_7, lo_8, lo_821, lo_9, lo_97, lo_99, ↓b_cl_0, ↓b_g_0_0, ↓b_g_0_1, ↓b_g_0_2, ↓b_g_0_3, ↓b_g_0_4, ↓b_g_0_5, ↓b_p_0_5, ↓b_g_0_6, ↓b_p_0_6, ↓b_g_0_7, ↓b_p_0_7, ↓b_g_0_8, ↓b_p_0_8, ↓b_g_0_9, ↓b_p_0_9, ↓c_bad]
    · simp (disch := omega) only [FX12_surest, UX12_surest_49, ↓y_i0_10, ↓y_i0_13, ↓y_i1_99, q0, q1, q2, ↓qb_as, ↓qb_it, ↓qi_ap, ↓reduceIte, ↓qb_qr, ↓qr_ap, ↓qb_gd, ↓gd_ap, ↓qb_so, eu_ap, up_ap, er_ap, eB_ap, uL_ap, ltT, ltF, leT, leF, eqT, eqF, nltT, nltF, nleT, nleF, neqT, neqF, clN, nI_add, pk_mul, pk_sub, divN, remN, lLT, lLF, toL, eq_self, and_self, or_self, or_false, false_or, or_true, true_or, and_true, true_and, and_false, false_and, not_true_eq_false, not_false_eq_true, if_true, if_false, ite_true, ite_false, Nat.reduceAdd, Nat.reduceMul, Nat.reduceSub, Nat.reduceDiv, Nat.reduceMod, Nat.reducePow, Nat.reduceEqDiff, Nat.reduceLT, li_0, li_1, li_2, li_3, li_4, li_5, li_6, li_7, li_8, li_9, li_10, li_11, li_12, li_13, li_15, li_16, li_20, li_25, li_26, li_27, li_29, li_30, li_31, li_32, li_43, li_46, li_48, li_49, li_57, li_59, li_60, li_63, li_89, li_93, li_97, li_99, li_100, li_108, li_110, li_120, li_122, li_125, li_129, li_133, li_200, li_253, li_1000, lo_0, lo_1, lo_10, lo_109103333, lo_12, lo_12343, lo_13, lo_17382886, lo_2, lo_20, lo_20194900, lo_25, lo_255, lo_27, lo_3, lo_31, lo_32, lo_4, lo_4153, lo_5, lo_537076, lo_6, lo_7, lo_8, lo_821, lo_9, lo_97, lo_99, ↓b_cl_61, ↓b_g_61_0, ↓b_g_61_1, ↓b_g_61_2, ↓b_g_61_3, ↓b_g_61_4, ↓b_g_61_5, ↓b_p_61_5, ↓b_g_61_6, ↓b_p_61_6, ↓b_g_61_7, ↓b_p_61_7, ↓b_g_61_8, ↓b_g_61_9, ↓b_g_61_10, ↓b_g_61_11, ↓b_g_61_12, ↓b_g_61_13, ↓b_g_61_14, ↓b_p_61_14, ↓b_g_61_15, ↓b_p_61_15, ↓b_g_61_16, ↓b_p_61_16, ↓b_g_61_17, ↓b_p_61_17, ↓b_g_61_18, ↓b_p_61_18, ↓b_g_61_19, ↓b_p_61_19, ↓b_g_61_20, ↓b_p_61_20, ↓b_g_61_21, ↓b_g_61_22, ↓b_p_61_22, ↓b_a_62, ↓b_s_62, ↓b_l_62, ↓b_a_63, ↓b_s_63, ↓b_l_63, ↓b_a_64, ↓b_s_64, ↓b_a_65, ↓b_s_65, ↓b_l_65, ↓b_a_66, ↓b_s_66, ↓b_l_66, ↓b_a_67, ↓b_s_67, ↓b_l_67, ↓b_a_68, ↓b_s_68, ↓b_l_68, ↓b_a_69, ↓b_s_69, ↓b_l_69, ↓b_a_70, ↓b_s_70, ↓b_l_70, ↓b_a_71, ↓b_s_71, ↓b_l_71, ↓b_a_72, ↓b_s_72, ↓b_l_72, ↓b_a_73, ↓b_s_73, ↓b_l_73, ↓r_bad A' B f n w1]
  have q0t := eq_true q0
  have q1t := eq_true q1
  obtain ⟨m, -, hm, rfl⟩ := wi_N (by decide) q0 (by decide)
  obtain ⟨l, -, hl, rfl⟩ := wi_N (by decide) q1 (by decide)
  obtain ⟨b, hb1, hb2, rfl⟩ := wi_N (by decide) q2 (by decide)
  have q2t := eq_true q2
  by_cases q3 : nI 1 ≤ a2 ∧ a2 ≤ nI b
  rotate_left
  · have q3f := eq_false q3
    refine step_bad hI0 0 (by decide) (-nI 2) ?_ (fun A' w1 w2 w3 => ?_)
    · simp (disch := omega) only [FX11_surest, UX11_surest_25, UX11_surest_53, ↓x_wi, q0t, q1t, q2t, q3f, ↓qb_as, ↓qb_it, ↓qi_ap, ↓reduceIte, ↓qb_qr, ↓qr_ap, ↓qb_gd, ↓gd_ap, ↓qb_so, eu_ap, up_ap, er_ap, eB_ap, uL_ap, ltT, ltF, leT, leF, eqT, eqF, nltT, nltF, nleT, nleF, neqT, neqF, clN, nI_add, pk_mul, pk_sub, divN, remN, lLT, lLF, toL, eq_self, and_self, or_self, or_false, false_or, or_true, true_or, and_true, true_and, and_false, false_and, not_true_eq_false, not_false_eq_true, if_true, if_false, ite_true, ite_false, Nat.reduceAdd, Nat.reduceMul, Nat.reduceSub, Nat.reduceDiv, Nat.reduceMod, Nat.reducePow, Nat.reduceEqDiff, Nat.reduceLT, li_0, li_1, li_2, li_3, li_4, li_5, li_6, li_7, li_8, li_9, li_10, li_11, li_12, li_13, li_15, li_16, li_20, li_25, li_26, li_27, li_29, li_30, li_31, li_32, li_43, li_46, li_48, li_49, li_57, li_59, li_60, li_63, li_89, li_93, li_97, li_99, li_100, li_108, li_110, li_120, li_122, li_125, li_129, li_133, li_200, li_253, li_1000, lo_0, lo_1, lo_10, lo_109103333, lo_12, lo_12343, lo_13, lo_17382886, lo_2, lo_20, lo_20194900, lo_25, lo_255, lo_27, lo_3, lo_31, lo_32, lo_4, lo_4153, lo_5, lo_537076, lo_6, lo_7, lo_8, lo_821, lo_9, lo_97, lo_99, ↓b_cl_0, ↓b_g_0_0, ↓b_g_0_1, ↓b_g_0_2, ↓b_g_0_3, ↓b_g_0_4, ↓b_g_0_5, ↓b_p_0_5, ↓b_g_0_6, ↓b_p_0_6, ↓b_g_0_7, ↓b_p_0_7, ↓b_g_0_8, ↓b_p_0_8, ↓b_g_0_9, ↓b_p_0_9, ↓c_bad]
    · have hy : ∀ (k : Int32 → qP Int32) (w : qH), qb (FX12_in a2.toInt64 (1 : Int64) (nI b).toInt64) k w = k (nI 0) w := fun k w => by
        rw [nI_l (show b < 2 ^ 31 by omega)]
        have := y_wi a2 (lo := 1) (hi := b) (by decide) (by omega) k w
        exact this.trans (if_neg q3)
      simp (disch := omega) only [FX12_surest, UX12_surest_49, ↓y_i0_10, ↓y_i0_13, ↓y_i1_99, ↓hy, q0t, q1t, q2t, ↓qb_as, ↓qb_it, ↓qi_ap, ↓reduceIte, ↓qb_qr, ↓qr_ap, ↓qb_gd, ↓gd_ap, ↓qb_so, eu_ap, up_ap, er_ap, eB_ap, uL_ap, ltT, ltF, leT, leF, eqT, eqF, nltT, nltF, nleT, nleF, neqT, neqF, clN, nI_add, pk_mul, pk_sub, divN, remN, lLT, lLF, toL, eq_self, and_self, or_self, or_false, false_or, or_true, true_or, and_true, true_and, and_false, false_and, not_true_eq_false, not_false_eq_true, if_true, if_false, ite_true, ite_false, Nat.reduceAdd, Nat.reduceMul, Nat.reduceSub, Nat.reduceDiv, Nat.reduceMod, Nat.reducePow, Nat.reduceEqDiff, Nat.reduceLT, li_0, li_1, li_2, li_3, li_4, li_5, li_6, li_7, li_8, li_9, li_10, li_11, li_12, li_13, li_15, li_16, li_20, li_25, li_26, li_27, li_29, li_30, li_31, li_32, li_43, li_46, li_48, li_49, li_57, li_59, li_60, li_63, li_89, li_93, li_97, li_99, li_100, li_108, li_110, li_120, li_122, li_125, li_129, li_133, li_200, li_253, li_1000, lo_0, lo_1, lo_10, lo_109103333, lo_12, lo_12343, lo_13, lo_17382886, lo_2, lo_20, lo_20194900, lo_25, lo_255, lo_27, lo_3, lo_31, lo_32, lo_4, lo_4153, lo_5, lo_537076, lo_6, lo_7, lo_8, lo_821, lo_9, lo_97, lo_99, ↓b_cl_61, ↓b_g_61_0, ↓b_g_61_1, ↓b_g_61_2, ↓b_g_61_3, ↓b_g_61_4, ↓b_g_61_5, ↓b_p_61_5, ↓b_g_61_6, ↓b_p_61_6, ↓b_g_61_7, ↓b_p_61_7, ↓b_g_61_8, ↓b_g_61_9, ↓b_g_61_10, ↓b_g_61_11, ↓b_g_61_12, ↓b_g_61_13, ↓b_g_61_14, ↓b_p_61_14, ↓b_g_61_15, ↓b_p_61_15, ↓b_g_61_16, ↓b_p_61_16, ↓b_g_61_17, ↓b_p_61_17, ↓b_g_61_18, ↓b_p_61_18, ↓b_g_61_19, ↓b_p_61_19, ↓b_g_61_20, ↓b_p_61_20, ↓b_g_61_21, ↓b_g_61_22, ↓b_p_61_22, ↓b_a_62, ↓b_s_62, ↓b_l_62, ↓b_a_63, ↓b_s_63, ↓b_l_63, ↓b_a_64, ↓b_s_64, ↓b_a_65, ↓b_s_65, ↓b_l_65, ↓b_a_66, ↓b_s_66, ↓b_l_66, ↓b_a_67, ↓b_s_67, ↓b_l_67, ↓b_a_68, ↓b_s_68, ↓b_l_68, ↓b_a_69, ↓b_s_69, ↓b_l_69, ↓b_a_70, ↓b_s_70, ↓b_l_70, ↓b_a_71, ↓b_s_71, ↓b_l_71, ↓b_a_72, ↓b_s_72, ↓b_l_72, ↓b_a_73, ↓b_s_73, ↓b_l_73, ↓r_bad A' B f n w1]
  obtain ⟨a, ha1, ha2, rfl⟩ := wi_N (by omega) q3 (by decide)
  have q3t := eq_true q3
  obtain ⟨v, e1, g1⟩ := x_sur hm hl hb2 (show a ≤ 99 by omega) (enc A B f n) 13 1000000 (by omega) (by omega) (fun j h1 h2 => by omega)
  refine step_same hI0 v ⟨A, ?_, esame_r A⟩ (fun A' w1 w2 hA => ?_)
  · simp (disch := omega) only [FX11_surest, UX11_surest_25, ↓x_wi, q0t, q1t, q2t, q3t, ↓qb_as, ↓qb_it, ↓qi_ap, ↓reduceIte, ↓qb_qr, ↓qr_ap, ↓qb_gd, ↓gd_ap, ↓qb_so, eu_ap, up_ap, er_ap, eB_ap, uL_ap, ltT, ltF, leT, leF, eqT, eqF, nltT, nltF, nleT, nleF, neqT, neqF, clN, nI_add, pk_mul, pk_sub, divN, remN, lLT, lLF, toL, eq_self, and_self, or_self, or_false, false_or, or_true, true_or, and_true, true_and, and_false, false_and, not_true_eq_false, not_false_eq_true, if_true, if_false, ite_true, ite_false, Nat.reduceAdd, Nat.reduceMul, Nat.reduceSub, Nat.reduceDiv, Nat.reduceMod, Nat.reducePow, Nat.reduceEqDiff, Nat.reduceLT, li_0, li_1, li_2, li_3, li_4, li_5, li_6, li_7, li_8, li_9, li_10, li_11, li_12, li_13, li_15, li_16, li_20, li_25, li_26, li_27, li_29, li_30, li_31, li_32, li_43, li_46, li_48, li_49, li_57, li_59, li_60, li_63, li_89, li_93, li_97, li_99, li_100, li_108, li_110, li_120, li_122, li_125, li_129, li_133, li_200, li_253, li_1000, lo_0, lo_1, lo_10, lo_109103333, lo_12, lo_12343, lo_13, lo_17382886, lo_2, lo_20, lo_20194900, lo_25, lo_255, lo_27, lo_3, lo_31, lo_32, lo_4, lo_4153, lo_5, lo_537076, lo_6, lo_7, lo_8, lo_821, lo_9, lo_97, lo_99, ↓b_cl_0, ↓b_g_0_0, ↓b_g_0_1, ↓b_g_0_2, ↓b_g_0_3, ↓b_g_0_4, ↓b_g_0_5, ↓b_p_0_5, ↓b_g_0_6, ↓b_p_0_6, ↓b_g_0_7, ↓b_p_0_7, ↓b_g_0_8, ↓b_p_0_8, ↓b_g_0_9, ↓b_p_0_9]
    exact e1
  · obtain ⟨v', e2, g2⟩ := y_sur hm hl hb2 (show a ≤ 99 by omega) (enc A' B f n) 13 0 1000000 (-nI 1) (by omega) (by omega) (Or.inl ⟨rfl, fun j hj => by omega⟩)
    have ev := gSp_u g2 g1
    subst ev
    refine ⟨A', ?_, esame_r A'⟩
    have hy : ∀ (k : Int32 → qP Int32) (w : qH), qb (FX12_in (nI a).toInt64 (1 : Int64) (nI b).toInt64) k w = k (nI 1) w := fun k w => by
      rw [nI_l (show b < 2 ^ 31 by omega)]
      have := y_wi (nI a) (lo := 1) (hi := b) (by decide) (by omega) k w
      exact this.trans (if_pos q3)
    simp (disch := omega) only [FX12_surest, ↓y_i0_10, ↓y_i0_13, ↓y_i1_99, ↓hy, q0t, q1t, q2t, ↓qb_as, ↓qb_it, ↓qi_ap, ↓reduceIte, ↓qb_qr, ↓qr_ap, ↓qb_gd, ↓gd_ap, ↓qb_so, eu_ap, up_ap, er_ap, eB_ap, uL_ap, ltT, ltF, leT, leF, eqT, eqF, nltT, nltF, nleT, nleF, neqT, neqF, clN, nI_add, pk_mul, pk_sub, divN, remN, lLT, lLF, toL, eq_self, and_self, or_self, or_false, false_or, or_true, true_or, and_true, true_and, and_false, false_and, not_true_eq_false, not_false_eq_true, if_true, if_false, ite_true, ite_false, Nat.reduceAdd, Nat.reduceMul, Nat.reduceSub, Nat.reduceDiv, Nat.reduceMod, Nat.reducePow, Nat.reduceEqDiff, Nat.reduceLT, li_0, li_1, li_2, li_3, li_4, li_5, li_6, li_7, li_8, li_9, li_10, li_11, li_12, li_13, li_15, li_16, li_20, li_25, li_26, li_27, li_29, li_30, li_31, li_32, li_43, li_46, li_48, li_49, li_57, li_59, li_60, li_63, li_89, li_93, li_97, li_99, li_100, li_108, li_110, li_120, li_122, li_125, li_129, li_133, li_200, li_253, li_1000, lo_0, lo_1, lo_10, lo_109103333, lo_12, lo_12343, lo_13, lo_17382886, lo_2, lo_20, lo_20194900, lo_25, lo_255, lo_27, lo_3, lo_31, lo_32, lo_4, lo_4153, lo_5, lo_537076, lo_6, lo_7, lo_8, lo_821, lo_9, lo_97, lo_99, ↓b_cl_61, ↓b_g_61_0, ↓b_g_61_1, ↓b_g_61_2, ↓b_g_61_3, ↓b_g_61_4, ↓b_g_61_5, ↓b_p_61_5, ↓b_g_61_6, ↓b_p_61_6, ↓b_g_61_7, ↓b_p_61_7, ↓b_g_61_8, ↓b_g_61_9, ↓b_g_61_10, ↓b_g_61_11, ↓b_g_61_12, ↓b_g_61_13, ↓b_g_61_14, ↓b_p_61_14, ↓b_g_61_15, ↓b_p_61_15, ↓b_g_61_16, ↓b_p_61_16, ↓b_g_61_17, ↓b_p_61_17, ↓b_g_61_18, ↓b_p_61_18, ↓b_g_61_19, ↓b_p_61_19, ↓b_g_61_20, ↓b_p_61_20, ↓b_g_61_21, ↓b_g_61_22, ↓b_p_61_22, ↓b_a_62, ↓b_s_62, ↓b_l_62, ↓b_a_63, ↓b_s_63, ↓b_l_63, ↓b_a_64, ↓b_s_64, ↓b_a_65, ↓b_s_65, ↓b_l_65, ↓b_a_66, ↓b_s_66, ↓b_l_66, ↓b_a_67, ↓b_s_67, ↓b_l_67, ↓b_a_68, ↓b_s_68, ↓b_l_68, ↓b_a_69, ↓b_s_69, ↓b_l_69, ↓b_a_70, ↓b_s_70, ↓b_l_70, ↓b_a_71, ↓b_s_71, ↓b_l_71, ↓b_a_72, ↓b_s_72, ↓b_l_72, ↓b_a_73, ↓b_s_73, ↓b_l_73]
    exact e2

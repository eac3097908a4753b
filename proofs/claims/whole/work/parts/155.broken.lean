/-! words: the reference's -/
theorem lk63 {k : Nat} (hk : k < 64) : lN k &&& 63 = lN k := by
  have h := wb_c k hk
  rw [nI_l (show k < 2 ^ 31 by omega)] at h
  exact h
theorem lshl1 {k : Nat} (hk : k < 64) : lN 1 <<< (lN k &&& 63) = lN (2 ^ k) := by
  have h := wb_shl 1 hk
  rw [nI_l (show k < 2 ^ 31 by omega), Nat.one_mul] at h
  exact h
theorem lbit {P k : Nat} (hP : P < 2 ^ 64) (hk : k < 64) : (lN P >>> (lN k &&& 63)) &&& lN 1 = lN (if P.testBit k = true then 1 else 0) := by
  rw [lk63 hk]
  apply wb_inj
  rw [Int64.toBitVec_and, Int64.toBitVec_shiftRight, wb_tb, wb_tb, wb_tb, wb_tb, wb_sm k hk, BitVec.sshiftRight_eq', BitVec.toNat_ofNat, Nat.mod_eq_of_lt (show k < 2 ^ 64 by omega)]
  apply BitVec.eq_of_getLsbD_eq
  intro i hi
  rw [BitVec.getLsbD_and, BitVec.getLsbD_sshiftRight, BitVec.getLsbD_ofNat, BitVec.getLsbD_ofNat, tb_one]
  by_cases q : i = 0
  · subst q
    rw [decide_eq_true rfl, Nat.add_zero, BitVec.getLsbD_ofNat]
    cases e : P.testBit k
    · simp [hk]
    · simp [hk]
  · rw [decide_eq_false q]
    cases e : P.testBit k
    · simp
    · simp [tb_one, q]
theorem lEF2 {a b : Nat} (h : a ≠ b) (ha : a < 9223372036854775808) (hb : b < 9223372036854775808) : (lN a = lN b) = False := eq_false (fun e => h ((pk_lEQ ha hb).mp e))
theorem lbitT {P k : Nat} (hP : P < 2 ^ 64) (hk : k < 64) : (lg_cmp ((lN P >>> (lN k &&& 63)) &&& lN 1) (lN 1) = nI 0) = (P.testBit k = true) := by
  rw [lbit hP hk, show nI 0 = (0 : Int32) from rfl, propext (lg_cmp_eq _ _)]
  cases e : P.testBit k
  · rw [if_neg (by decide), lEF2 (by decide) (by decide) (by decide)]; simp
  · rw [if_pos rfl]; simp
def anyL (p : Nat → Bool) : Nat → Bool
  | 0 => false
  | k + 1 => anyL p k || p k
/-- places behind which the first signs of a pattern may stand -/
def plc (lw sg : Nat → Nat) (n : Nat) : Nat → Nat → Bool
  | 0 => fun k => decide (k ≤ n)
  | j + 1 => fun k => decide (1 ≤ k ∧ k ≤ n) && (if lw j = 27 then anyL (plc lw sg n j) k else plc lw sg n j (k - 1) && (decide (lw j = 26) || decide (sg (k - 1) = lw j)))
theorem plc_rch {lw sg : Nat → Nat} {n sz : Nat} (hsg : ∀ k, k < n → sg k < 26) : ∀ k, k ≤ n → ∀ j, j ≤ sz → plc lw sg n j k = (decide (j = 0) || rch lw sz sg k j) := by
  have hany : ∀ j k, lw j = 27 → k ≤ n → anyL (plc lw sg n j) k = plc lw sg n (j + 1) k := by
    intro j k h27 hk
    show _ = (decide (1 ≤ k ∧ k ≤ n) && (if lw j = 27 then anyL (plc lw sg n j) k else _))
    rw [if_pos h27]
    by_cases q : 1 ≤ k
    · rw [decide_eq_true ⟨q, hk⟩, Bool.true_and]
    · have : k = 0 := by omega
      subst this; rfl
  intro k
  induction k with
  | zero =>
    intro hk j hj
    cases j with
    | zero => rfl
    | succ j =>
      have e0 : plc lw sg n (j + 1) 0 = false := by simp [plc]
      rw [e0, decide_eq_false (by omega)]; rfl
  | succ k ih =>
    intro hk j hj
    cases j with
    | zero =>
      show decide (k + 1 ≤ n) = _
      rw [decide_eq_true hk, decide_eq_true rfl]; rfl
    | succ j =>
      have i1 := ih (by omega) j (by omega)
      have i2 := ih (by omega) (j + 1) hj
      have hg := hsg k (by omega)
      show (decide (1 ≤ k + 1 ∧ k + 1 ≤ n) && (if lw j = 27 then anyL (plc lw sg n j) (k + 1) else plc lw sg n j (k + 1 - 1) && (decide (lw j = 26) || decide (sg (k + 1 - 1) = lw j)))) = (decide (j + 1 = 0) || (decide (1 ≤ j + 1 ∧ j + 1 ≤ sz) && ((decide (lw (j + 1 - 1) = sg k) || decide (lw (j + 1 - 1) = 26) || decide (lw (j + 1 - 1) = 27)) && ((decide (j + 1 = 1) || rch lw sz sg k (j + 1 - 1)) || (decide (lw (j + 1 - 1) = 27) && rch lw sz sg k (j + 1))))))
      rw [Nat.add_sub_cancel, Nat.add_sub_cancel, decide_eq_true (show 1 ≤ k + 1 ∧ k + 1 ≤ n by omega), decide_eq_true (show 1 ≤ j + 1 ∧ j + 1 ≤ sz by omega), decide_eq_false (show ¬ j + 1 = 0 by omega), Bool.true_and, Bool.true_and, Bool.false_or, show decide (j + 1 = 1) = decide (j = 0) from by congr 1; exact propext (by omega), ← i1]
      rw [decide_eq_false (show ¬ j + 1 = 0 by omega), Bool.false_or] at i2
      by_cases q : lw j = 27
      · rw [if_pos q, decide_eq_true q, Bool.or_true, Bool.true_and, Bool.true_and, ← i2, ← hany j k q (by omega)]
        show (anyL (plc lw sg n j) k || plc lw sg n j k) = _
        rw [Bool.or_comm]
      · rw [if_neg q, decide_eq_false q, Bool.or_false, Bool.false_and, Bool.or_false, Bool.and_comm, show decide (sg k = lw j) = decide (lw j = sg k) from by congr 1; exact propext eq_comm, Bool.or_comm]
section BR
variable {S : eS} {A : eA} (B : eB) (f : Nat → Option Nat) (n : Nat)
theorem w_b19 (K : Nat → Int32 → Int32 → Int64 → qP Int32) (x : Int32) {m : Nat} (hm : m ≤ 63) (h : qH) : ∀ (d j N P : Nat), j + d = m + 1 → d < N → P < 2 ^ 64 → (∀ l, P.testBit l = decide (l < j)) → ∃ P', WX12_broken_19 K N 61 x (nI m) (lN P) (nI j) h = K 61 x (nI m) (lN P') h ∧ P' < 2 ^ 64 ∧ ∀ l, P'.testBit l = decide (l ≤ m) := by
  intro d
  induction d with
  | zero =>
    intro j N P hj hN hP hb
    obtain ⟨N, rfl⟩ : ∃ M, N = M + 1 := ⟨N - 1, by omega⟩
    refine ⟨P, ?_, hP, fun l => by rw [hb l]; congr 1; exact propext (by omega)⟩
    show UX12_broken_19 (WX12_broken_19 K N) K 61 x (nI m) (lN P) (nI j) h = _
    simp (disch := omega) only [UX12_broken_19, ↓qb_as, ↓qb_it, ↓qi_ap, ↓reduceIte, ↓qb_qr, ↓qr_ap, ↓qb_gd, ↓gd_ap, ↓qb_so, ↓in_ok, eu_ap, up_ap, er_ap, eB_ap, uL_ap, ltT, ltF, leT, leF, eqT, eqF, nltT, nltF, nleT, nleF, neqT, neqF, clN, nI_add, pk_mul, pk_sub, divN, remN, lLT, lLF, toL, eq_self, and_self, or_self, or_false, false_or, or_true, true_or, and_true, true_and, and_false, false_and, not_true_eq_false, not_false_eq_true, if_true, if_false, ite_true, ite_false, Nat.reduceAdd, Nat.reduceMul, Nat.reduceSub, Nat.reduceDiv, Nat.reduceMod, Nat.reducePow, Nat.reduceEqDiff, Nat.reduceLT, li_0, li_1, li_2, li_3, li_4, li_5, li_6, li_7, li_8, li_9, li_10, li_11, li_12, li_13, li_15, li_16, li_20, li_25, li_26, li_27, li_29, li_30, li_31, li_32, li_43, li_46, li_48, li_49, li_57, li_59, li_60, li_63, li_89, li_93, li_97, li_99, li_100, li_108, li_110, li_120, li_122, li_125, li_129, li_133, li_200, li_253, li_1000, lo_0, lo_1, lo_10, lo_109103333, lo_12, lo_12343, lo_13, lo_17382886, lo_2, lo_20, lo_20194900, lo_25, lo_255, lo_27, lo_3, lo_31, lo_32, lo_4, lo_4153, lo_5, lo_537076, lo_6, lo_7, lo_8, lo_821, lo_9, lo_97, lo_99]
  | succ d ih =>
    intro j N P hj hN hP hb
    obtain ⟨N, rfl⟩ : ∃ M, N = M + 1 := ⟨N - 1, by omega⟩
    have h2 : 2 ^ j < 2 ^ 64 := Nat.pow_lt_pow_right (by decide) (by omega)
    obtain ⟨P', e, g1, g2⟩ := ih (j + 1) N (P ||| 2 ^ j) (by omega) (by omega) (Nat.or_lt_two_pow hP h2) (fun l => by
      rw [Nat.testBit_or, Nat.testBit_two_pow, hb l]
      by_cases q : l < j
      · rw [decide_eq_true q, decide_eq_true (show l < j + 1 by omega), Bool.true_or]
      · rw [decide_eq_false q, Bool.false_or]; congr 1; exact propext (by omega))
    refine ⟨P', ?_, g1, g2⟩
    show UX12_broken_19 (WX12_broken_19 K N) K 61 x (nI m) (lN P) (nI j) h = _
    simp (disch := omega) only [UX12_broken_19, ↓qb_as, ↓qb_it, ↓qi_ap, ↓reduceIte, ↓qb_qr, ↓qr_ap, ↓qb_gd, ↓gd_ap, ↓qb_so, ↓in_ok, eu_ap, up_ap, er_ap, eB_ap, uL_ap, ltT, ltF, leT, leF, eqT, eqF, nltT, nltF, nleT, nleF, neqT, neqF, clN, nI_add, pk_mul, pk_sub, divN, remN, lLT, lLF, toL, eq_self, and_self, or_self, or_false, false_or, or_true, true_or, and_true, true_and, and_false, false_and, not_true_eq_false, not_false_eq_true, if_true, if_false, ite_true, ite_false, Nat.reduceAdd, Nat.reduceMul, Nat.reduceSub, Nat.reduceDiv, Nat.reduceMod, Nat.reducePow, Nat.reduceEqDiff, Nat.reduceLT, li_0, li_1, li_2, li_3, li_4, li_5, li_6, li_7, li_8, li_9, li_10, li_11, li_12, li_13, li_15, li_16, li_20, li_25, li_26, li_27, li_29, li_30, li_31, li_32, li_43, li_46, li_48, li_49, li_57, li_59, li_60, li_63, li_89, li_93, li_97, li_99, li_100, li_108, li_110, li_120, li_122, li_125, li_129, li_133, li_200, li_253, li_1000, lo_0, lo_1, lo_10, lo_109103333, lo_12, lo_12343, lo_13, lo_17382886, lo_2, lo_20, lo_20194900, lo_25, lo_255, lo_27, lo_3, lo_31, lo_32, lo_4, lo_4153, lo_5, lo_537076, lo_6, lo_7, lo_8, lo_821, lo_9, lo_97, lo_99, lshl1, wb_or hP h2]
    exact e
theorem w_b205 {m : Nat} (hm : m ≤ 63) {q : Nat → Bool} {P : Nat} (hP : P < 2 ^ 64) (hb : ∀ l, 1 ≤ l → l ≤ m → P.testBit l = q l) (h : qH) : ∀ (d N : Nat) (v : Int32), d ≤ m → d < N → ((v = -nI 1 ∧ ∀ y, d ≤ y → y < m → q (y + 1) = false) ∨ ∃ x, d ≤ x ∧ x < m ∧ v = nI x ∧ q (x + 1) = true ∧ ∀ y, d ≤ y → y < x → q (y + 1) = false) → ∃ v', WX12_broken_205 N (lN P) v (nI d) h = some (v', h) ∧ wSp q m v' := by
  intro d
  induction d with
  | zero =>
    intro N v hd hN hv
    obtain ⟨N, rfl⟩ : ∃ M, N = M + 1 := ⟨N - 1, by omega⟩
    refine ⟨v, ?_, ?_⟩
    · show UX12_broken_205 (WX12_broken_205 N) (lN P) v (nI 0) h = _
      simp (disch := omega) only [UX12_broken_205, ↓qb_as, ↓qb_it, ↓qi_ap, ↓reduceIte, ↓qb_qr, ↓qr_ap, ↓qb_gd, ↓gd_ap, ↓qb_so, ↓in_ok, eu_ap, up_ap, er_ap, eB_ap, uL_ap, ltT, ltF, leT, leF, eqT, eqF, nltT, nltF, nleT, nleF, neqT, neqF, clN, nI_add, pk_mul, pk_sub, divN, remN, lLT, lLF, toL, eq_self, and_self, or_self, or_false, false_or, or_true, true_or, and_true, true_and, and_false, false_and, not_true_eq_false, not_false_eq_true, if_true, if_false, ite_true, ite_false, Nat.reduceAdd, Nat.reduceMul, Nat.reduceSub, Nat.reduceDiv, Nat.reduceMod, Nat.reducePow, Nat.reduceEqDiff, Nat.reduceLT, li_0, li_1, li_2, li_3, li_4, li_5, li_6, li_7, li_8, li_9, li_10, li_11, li_12, li_13, li_15, li_16, li_20, li_25, li_26, li_27, li_29, li_30, li_31, li_32, li_43, li_46, li_48, li_49, li_57, li_59, li_60, li_63, li_89, li_93, li_97, li_99, li_100, li_108, li_110, li_120, li_122, li_125, li_129, li_133, li_200, li_253, li_1000, lo_0, lo_1, lo_10, lo_109103333, lo_12, lo_12343, lo_13, lo_17382886, lo_2, lo_20, lo_20194900, lo_25, lo_255, lo_27, lo_3, lo_31, lo_32, lo_4, lo_4153, lo_5, lo_537076, lo_6, lo_7, lo_8, lo_821, lo_9, lo_97, lo_99]
    · rcases hv with ⟨e, g⟩ | ⟨x, h1, h2, h3, h4, h5⟩
      · exact Or.inl ⟨e, fun y hy => g y (Nat.zero_le _) hy⟩
      · exact Or.inr ⟨x, h2, h3, h4, fun y hy => h5 y (Nat.zero_le _) hy⟩
  | succ d ih =>
    intro N v hd hN hv
    obtain ⟨N, rfl⟩ : ∃ M, N = M + 1 := ⟨N - 1, by omega⟩
    have e1 := hb (d + 1) (by omega) hd
    have e2 := lbitT hP (show d + 1 < 64 by omega)
    show ∃ v', UX12_broken_205 (WX12_broken_205 N) (lN P) v (nI (d + 1)) h = _ ∧ _
    cases e3 : q (d + 1)
    · obtain ⟨v', e, g⟩ := ih N v (by omega) (by omega) (by
        rcases hv with ⟨e, g⟩ | ⟨x, h1, h2, h3, h4, h5⟩
        · refine Or.inl ⟨e, fun y hy1 hy2 => ?_⟩
          by_cases q2 : y = d
          · subst q2; exact e3
          · exact g y (by omega) hy2
        · refine Or.inr ⟨x, by omega, h2, h3, h4, fun y hy1 hy2 => ?_⟩
          by_cases q2 : y = d
          · subst q2; exact e3
          · exact h5 y (by omega) hy2)
      refine ⟨v', ?_, g⟩
      simp (disch := omega) only [UX12_broken_205, ↓qb_as, ↓qb_it, ↓qi_ap, ↓reduceIte, ↓qb_qr, ↓qr_ap, ↓qb_gd, ↓gd_ap, ↓qb_so, ↓in_ok, eu_ap, up_ap, er_ap, eB_ap, uL_ap, ltT, ltF, leT, leF, eqT, eqF, nltT, nltF, nleT, nleF, neqT, neqF, clN, nI_add, pk_mul, pk_sub, divN, remN, lLT, lLF, toL, eq_self, and_self, or_self, or_false, false_or, or_true, true_or, and_true, true_and, and_false, false_and, not_true_eq_false, not_false_eq_true, if_true, if_false, ite_true, ite_false, Nat.reduceAdd, Nat.reduceMul, Nat.reduceSub, Nat.reduceDiv, Nat.reduceMod, Nat.reducePow, Nat.reduceEqDiff, Nat.reduceLT, li_0, li_1, li_2, li_3, li_4, li_5, li_6, li_7, li_8, li_9, li_10, li_11, li_12, li_13, li_15, li_16, li_20, li_25, li_26, li_27, li_29, li_30, li_31, li_32, li_43, li_46, li_48, li_49, li_57, li_59, li_60, li_63, li_89, li_93, li_97, li_99, li_100, li_108, li_110, li_120, li_122, li_125, li_129, li_133, li_200, li_253, li_1000, lo_0, lo_1, lo_10, lo_109103333, lo_12, lo_12343, lo_13, lo_17382886, lo_2, lo_20, lo_20194900, lo_25, lo_255, lo_27, lo_3, lo_31, lo_32, lo_4, lo_4153, lo_5, lo_537076, lo_6, lo_7, lo_8, lo_821, lo_9, lo_97, lo_99, e2, e1, e3, Bool.false_eq_true, dn_s]
      exact e
    · obtain ⟨v', e, g⟩ := ih N (nI d) (by omega) (by omega) (Or.inr ⟨d, Nat.le_refl _, by omega, rfl, e3, fun y hy1 hy2 => by omega⟩)
      refine ⟨v', ?_, g⟩
      simp (disch := omega) only [UX12_broken_205, ↓qb_as, ↓qb_it, ↓qi_ap, ↓reduceIte, ↓qb_qr, ↓qr_ap, ↓qb_gd, ↓gd_ap, ↓qb_so, ↓in_ok, eu_ap, up_ap, er_ap, eB_ap, uL_ap, ltT, ltF, leT, leF, eqT, eqF, nltT, nltF, nleT, nleF, neqT, neqF, clN, nI_add, pk_mul, pk_sub, divN, remN, lLT, lLF, toL, eq_self, and_self, or_self, or_false, false_or, or_true, true_or, and_true, true_and, and_false, false_and, not_true_eq_false, not_false_eq_true, if_true, if_false, ite_true, ite_false, Nat.reduceAdd, Nat.reduceMul, Nat.reduceSub, Nat.reduceDiv, Nat.reduceMod, Nat.reducePow, Nat.reduceEqDiff, Nat.reduceLT, li_0, li_1, li_2, li_3, li_4, li_5, li_6, li_7, li_8, li_9, li_10, li_11, li_12, li_13, li_15, li_16, li_20, li_25, li_26, li_27, li_29, li_30, li_31, li_32, li_43, li_46, li_48, li_49, li_57, li_59, li_60, li_63, li_89, li_93, li_97, li_99, li_100, li_108, li_110, li_120, li_122, li_125, li_129, li_133, li_200, li_253, li_1000, lo_0, lo_1, lo_10, lo_109103333, lo_12, lo_12343, lo_13, lo_17382886, lo_2, lo_20, lo_20194900, lo_25, lo_255, lo_27, lo_3, lo_31, lo_32, lo_4, lo_4153, lo_5, lo_537076, lo_6, lo_7, lo_8, lo_821, lo_9, lo_97, lo_99, e2, e1, e3, dn_s, Nat.add_sub_cancel]
      exact e
set_option maxRecDepth 100000 in
set_option maxHeartbeats 8000000 in
theorem w_b81 (K : Nat → Int32 → Int32 → Int32 → Int64 → qP Int32) (x y : Int32) {m c j : Nat} {lw sg : Nat → Nat} (hm : m ≤ 63) (hc : c < 28) (hcj : lw j = c) (hsg : ∀ k, k < m → sg k < 26) (hat : ∀ k, k < m → ∀ K2 : Int32 → qP Int32, qb (FX12_signAt 61 (nI k)) K2 (enc A B f n) = K2 (nI (sg k)) (enc A B f n)) {P : Nat} (hP : P < 2 ^ 64) (hb : ∀ l, l ≤ m → P.testBit l = plc lw sg m j l) : ∀ (d k N T : Nat), k + d = m → d < N → T < 2 ^ 64 → (∀ l, T.testBit l = (decide (l ≤ k) && plc lw sg m (j + 1) l)) → ∃ T', WX12_broken_81 K N 61 x (nI m) (lN P) y (nI c) (lN T) (nI (if anyL (plc lw sg m j) k = true then 1 else 0)) (nI k) (enc A B f n) = K 61 x (nI m) y (lN T') (enc A B f n) ∧ T' < 2 ^ 64 ∧ ∀ l, T'.testBit l = plc lw sg m (j + 1) l := by
  intro d
  induction d with
  | zero =>
    intro k N T hk hN hT hbT
    obtain ⟨N, rfl⟩ : ∃ M, N = M + 1 := ⟨N - 1, by omega⟩
    refine ⟨T, ?_, hT, fun l => ?_⟩
    · show UX12_broken_81 (WX12_broken_81 K N) K 61 x (nI m) (lN P) y (nI c) (lN T) _ (nI k) (enc A B f n) = _
      simp (disch := omega) only [UX12_broken_81, ↓qb_as, ↓qb_it, ↓qi_ap, ↓reduceIte, ↓qb_qr, ↓qr_ap, ↓qb_gd, ↓gd_ap, ↓qb_so, ↓in_ok, eu_ap, up_ap, er_ap, eB_ap, uL_ap, ltT, ltF, leT, leF, eqT, eqF, nltT, nltF, nleT, nleF, neqT, neqF, clN, nI_add, pk_mul, pk_sub, divN, remN, lLT, lLF, toL, eq_self, and_self, or_self, or_false, false_or, or_true, true_or, and_true, true_and, and_false, false_and, not_true_eq_false, not_false_eq_true, if_true, if_false, ite_true, ite_false, Nat.reduceAdd, Nat.reduceMul, Nat.reduceSub, Nat.reduceDiv, Nat.reduceMod, Nat.reducePow, Nat.reduceEqDiff, Nat.reduceLT, li_0, li_1, li_2, li_3, li_4, li_5, li_6, li_7, li_8, li_9, li_10, li_11, li_12, li_13, li_15, li_16, li_20, li_25, li_26, li_27, li_29, li_30, li_31, li_32, li_43, li_46, li_48, li_49, li_57, li_59, li_60, li_63, li_89, li_93, li_97, li_99, li_100, li_108, li_110, li_120, li_122, li_125, li_129, li_133, li_200, li_253, li_1000, lo_0, lo_1, lo_10, lo_109103333, lo_12, lo_12343, lo_13, lo_17382886, lo_2, lo_20, lo_20194900, lo_25, lo_255, lo_27, lo_3, lo_31, lo_32, lo_4, lo_4153, lo_5, lo_537076, lo_6, lo_7, lo_8, lo_821, lo_9, lo_97, lo_99]
    · rw [hbT l]
      by_cases q : l ≤ k
      · rw [decide_eq_true q, Bool.true_and]
      · rw [decide_eq_false q, Bool.false_and]
        show _ = (decide (1 ≤ l ∧ l ≤ m) && _)
        rw [decide_eq_false (by omega), Bool.false_and]
  | succ d ih =>
    intro k N T hk hN hT hbT
    obtain ⟨N, rfl⟩ : ∃ M, N = M + 1 := ⟨N - 1, by omega⟩
    have h2 : 2 ^ (k + 1) < 2 ^ 64 := Nat.pow_lt_pow_right (by decide) (by omega)
    have hPk := lbitT hP (show k < 64 by omega)
    rw [hb k (by omega)] at hPk
    have hg := hsg k (by omega)
    have ha := hat k (by omega)
    have key : ∀ b : Bool, plc lw sg m (j + 1) (k + 1) = b → WX12_broken_81 K (N + 1) 61 x (nI m) (lN P) y (nI c) (lN T) (nI (if anyL (plc lw sg m j) k = true then 1 else 0)) (nI k) (enc A B f n) = WX12_broken_81 K N 61 x (nI m) (lN P) y (nI c) (lN (if b = true then T ||| 2 ^ (k + 1) else T)) (nI (if anyL (plc lw sg m j) (k + 1) = true then 1 else 0)) (nI (k + 1)) (enc A B f n) := by
      intro b hst
      show UX12_broken_81 (WX12_broken_81 K N) K 61 x (nI m) (lN P) y (nI c) (lN T) (nI (if anyL (plc lw sg m j) k = true then 1 else 0)) (nI k) (enc A B f n) = _
      have hst : (decide (1 ≤ k + 1 ∧ k + 1 ≤ m) && (if lw j = 27 then anyL (plc lw sg m j) k || plc lw sg m j k else plc lw sg m j (k + 1 - 1) && (decide (lw j = 26) || decide (sg (k + 1 - 1) = lw j)))) = b := hst
      show _ = WX12_broken_81 K N 61 x (nI m) (lN P) y (nI c) (lN (if b = true then T ||| 2 ^ (k + 1) else T)) (nI (if (anyL (plc lw sg m j) k || plc lw sg m j k) = true then 1 else 0)) (nI (k + 1)) (enc A B f n)
      rw [Nat.add_sub_cancel, decide_eq_true (show 1 ≤ k + 1 ∧ k + 1 ≤ m by omega), Bool.true_and, hcj] at hst
      have lt0 : T ||| 0 = T := Nat.or_zero T
      have q : c = 27 ∨ c = 26 ∨ (c ≠ 27 ∧ c ≠ 26 ∧ sg k = c) ∨ (c ≠ 27 ∧ c ≠ 26 ∧ sg k ≠ c) := by omega
      cases e1 : anyL (plc lw sg m j) k <;> cases e2 : plc lw sg m j k <;> rw [e1, e2] at hst <;> rcases q with q | q | ⟨q1, q2, q3⟩ | ⟨q1, q2, q3⟩
      all_goals first
        | (rw [if_pos q] at hst; simp only [Bool.true_or, Bool.or_true, Bool.false_or, Bool.or_false, Bool.true_and, Bool.and_true, Bool.false_and, Bool.and_false] at hst; subst hst; simp (disch := omega) only [UX12_broken_81, UX12_broken_103, UX12_broken_120, UX12_broken_162, UX12_broken_181, ↓qb_as, ↓qb_it, ↓qi_ap, ↓reduceIte, ↓qb_qr, ↓qr_ap, ↓qb_gd, ↓gd_ap, ↓qb_so, ↓in_ok, eu_ap, up_ap, er_ap, eB_ap, uL_ap, ltT, ltF, leT, leF, eqT, eqF, nltT, nltF, nleT, nleF, neqT, neqF, clN, nI_add, pk_mul, pk_sub, divN, remN, lLT, lLF, toL, eq_self, and_self, or_self, or_false, false_or, or_true, true_or, and_true, true_and, and_false, false_and, not_true_eq_false, not_false_eq_true, if_true, if_false, ite_true, ite_false, Nat.reduceAdd, Nat.reduceMul, Nat.reduceSub, Nat.reduceDiv, Nat.reduceMod, Nat.reducePow, Nat.reduceEqDiff, Nat.reduceLT, li_0, li_1, li_2, li_3, li_4, li_5, li_6, li_7, li_8, li_9, li_10, li_11, li_12, li_13, li_15, li_16, li_20, li_25, li_26, li_27, li_29, li_30, li_31, li_32, li_43, li_46, li_48, li_49, li_57, li_59, li_60, li_63, li_89, li_93, li_97, li_99, li_100, li_108, li_110, li_120, li_122, li_125, li_129, li_133, li_200, li_253, li_1000, lo_0, lo_1, lo_10, lo_109103333, lo_12, lo_12343, lo_13, lo_17382886, lo_2, lo_20, lo_20194900, lo_25, lo_255, lo_27, lo_3, lo_31, lo_32, lo_4, lo_4153, lo_5, lo_537076, lo_6, lo_7, lo_8, lo_821, lo_9, lo_97, lo_99, ↓b_cl_61, ↓b_g_61_0, ↓b_g_61_1, ↓b_g_61_2, ↓b_g_61_3, ↓b_g_61_4, ↓b_g_61_5, ↓b_p_61_5, ↓b_g_61_6, ↓b_p_61_6, ↓b_g_61_7, ↓b_p_61_7, ↓b_g_61_8, ↓b_g_61_9, ↓b_g_61_10, ↓b_g_61_11, ↓b_g_61_12, ↓b_g_61_13, ↓b_g_61_14, ↓b_p_61_14, ↓b_g_61_15, ↓b_p_61_15, ↓b_g_61_16, ↓b_p_61_16, ↓b_g_61_17, ↓b_p_61_17, ↓b_g_61_18, ↓b_p_61_18, ↓b_g_61_19, ↓b_p_61_19, ↓b_g_61_20, ↓b_p_61_20, ↓b_g_61_21, ↓b_g_61_22, ↓b_p_61_22, ↓b_a_62, ↓b_s_62, ↓b_l_62, ↓b_a_63, ↓b_s_63, ↓b_l_63, ↓b_a_64, ↓b_s_64, ↓b_a_65, ↓b_s_65, ↓b_l_65, ↓b_a_66, ↓b_s_66, ↓b_l_66, ↓b_a_67, ↓b_s_67, ↓b_l_67, ↓b_a_68, ↓b_s_68, ↓b_l_68, ↓b_a_69, ↓b_s_69, ↓b_l_69, ↓b_a_70, ↓b_s_70, ↓b_l_70, ↓b_a_71, ↓b_s_71, ↓b_l_71, ↓b_a_72, ↓b_s_72, ↓b_l_72, ↓b_a_73, ↓b_s_73, ↓b_l_73, hPk, e1, e2, lshl1, wb_or hT h2, wb_or hT (show 0 < 2 ^ 64 by decide), lt0, Bool.false_eq_true, Bool.true_or, Bool.or_true, Bool.false_or, Bool.or_false]; done)
        | (rw [if_neg (show ¬ c = 27 by omega), decide_eq_true q] at hst; simp only [Bool.true_or, Bool.or_true, Bool.false_or, Bool.or_false, Bool.true_and, Bool.and_true, Bool.false_and, Bool.and_false] at hst; subst hst; simp (disch := omega) only [UX12_broken_81, UX12_broken_103, UX12_broken_120, UX12_broken_162, UX12_broken_181, ↓qb_as, ↓qb_it, ↓qi_ap, ↓reduceIte, ↓qb_qr, ↓qr_ap, ↓qb_gd, ↓gd_ap, ↓qb_so, ↓in_ok, eu_ap, up_ap, er_ap, eB_ap, uL_ap, ltT, ltF, leT, leF, eqT, eqF, nltT, nltF, nleT, nleF, neqT, neqF, clN, nI_add, pk_mul, pk_sub, divN, remN, lLT, lLF, toL, eq_self, and_self, or_self, or_false, false_or, or_true, true_or, and_true, true_and, and_false, false_and, not_true_eq_false, not_false_eq_true, if_true, if_false, ite_true, ite_false, Nat.reduceAdd, Nat.reduceMul, Nat.reduceSub, Nat.reduceDiv, Nat.reduceMod, Nat.reducePow, Nat.reduceEqDiff, Nat.reduceLT, li_0, li_1, li_2, li_3, li_4, li_5, li_6, li_7, li_8, li_9, li_10, li_11, li_12, li_13, li_15, li_16, li_20, li_25, li_26, li_27, li_29, li_30, li_31, li_32, li_43, li_46, li_48, li_49, li_57, li_59, li_60, li_63, li_89, li_93, li_97, li_99, li_100, li_108, li_110, li_120, li_122, li_125, li_129, li_133, li_200, li_253, li_1000, lo_0, lo_1, lo_10, lo_109103333, lo_12, lo_12343, lo_13, lo_17382886, lo_2, lo_20, lo_20194900, lo_25, lo_255, lo_27, lo_3, lo_31, lo_32, lo_4, lo_4153, lo_5, lo_537076, lo_6, lo_7, lo_8, lo_821, lo_9, lo_97, lo_99, ↓b_cl_61, ↓b_g_61_0, ↓b_g_61_1, ↓b_g_61_2, ↓b_g_61_3, ↓b_g_61_4, ↓b_g_61_5, ↓b_p_61_5, ↓b_g_61_6, ↓b_p_61_6, ↓b_g_61_7, ↓b_p_61_7, ↓b_g_61_8, ↓b_g_61_9, ↓b_g_61_10, ↓b_g_61_11, ↓b_g_61_12, ↓b_g_61_13, ↓b_g_61_14, ↓b_p_61_14, ↓b_g_61_15, ↓b_p_61_15, ↓b_g_61_16, ↓b_p_61_16, ↓b_g_61_17, ↓b_p_61_17, ↓b_g_61_18, ↓b_p_61_18, ↓b_g_61_19, ↓b_p_61_19, ↓b_g_61_20, ↓b_p_61_20, ↓b_g_61_21, ↓b_g_61_22, ↓b_p_61_22, ↓b_a_62, ↓b_s_62, ↓b_l_62, ↓b_a_63, ↓b_s_63, ↓b_l_63, ↓b_a_64, ↓b_s_64, ↓b_a_65, ↓b_s_65, ↓b_l_65, ↓b_a_66, ↓b_s_66, ↓b_l_66, ↓b_a_67, ↓b_s_67, ↓b_l_67, ↓b_a_68, ↓b_s_68, ↓b_l_68, ↓b_a_69, ↓b_s_69, ↓b_l_69, ↓b_a_70, ↓b_s_70, ↓b_l_70, ↓b_a_71, ↓b_s_71, ↓b_l_71, ↓b_a_72, ↓b_s_72, ↓b_l_72, ↓b_a_73, ↓b_s_73, ↓b_l_73, hPk, e1, e2, lshl1, wb_or hT h2, wb_or hT (show 0 < 2 ^ 64 by decide), lt0, Bool.false_eq_true, Bool.true_or, Bool.or_true, Bool.false_or, Bool.or_false]; done)
        | (rw [if_neg q1, decide_eq_false q2, decide_eq_true q3] at hst; simp only [Bool.true_or, Bool.or_true, Bool.false_or, Bool.or_false, Bool.true_and, Bool.and_true, Bool.false_and, Bool.and_false] at hst; subst hst; simp (disch := omega) only [UX12_broken_81, UX12_broken_103, UX12_broken_120, UX12_broken_162, UX12_broken_181, ↓qb_as, ↓qb_it, ↓qi_ap, ↓reduceIte, ↓qb_qr, ↓qr_ap, ↓qb_gd, ↓gd_ap, ↓qb_so, ↓in_ok, eu_ap, up_ap, er_ap, eB_ap, uL_ap, ltT, ltF, leT, leF, eqT, eqF, nltT, nltF, nleT, nleF, neqT, neqF, clN, nI_add, pk_mul, pk_sub, divN, remN, lLT, lLF, toL, eq_self, and_self, or_self, or_false, false_or, or_true, true_or, and_true, true_and, and_false, false_and, not_true_eq_false, not_false_eq_true, if_true, if_false, ite_true, ite_false, Nat.reduceAdd, Nat.reduceMul, Nat.reduceSub, Nat.reduceDiv, Nat.reduceMod, Nat.reducePow, Nat.reduceEqDiff, Nat.reduceLT, li_0, li_1, li_2, li_3, li_4, li_5, li_6, li_7, li_8, li_9, li_10, li_11, li_12, li_13, li_15, li_16, li_20, li_25, li_26, li_27, li_29, li_30, li_31, li_32, li_43, li_46, li_48, li_49, li_57, li_59, li_60, li_63, li_89, li_93, li_97, li_99, li_100, li_108, li_110, li_120, li_122, li_125, li_129, li_133, li_200, li_253, li_1000, lo_0, lo_1, lo_10, lo_109103333, lo_12, lo_12343, lo_13, lo_17382886, lo_2, lo_20, lo_20194900, lo_25, lo_255, lo_27, lo_3, lo_31, lo_32, lo_4, lo_4153, lo_5, lo_537076, lo_6, lo_7, lo_8, lo_821, lo_9, lo_97, lo_99, ↓b_cl_61, ↓b_g_61_0, ↓b_g_61_1, ↓b_g_61_2, ↓b_g_61_3, ↓b_g_61_4, ↓b_g_61_5, ↓b_p_61_5, ↓b_g_61_6, ↓b_p_61_6, ↓b_g_61_7, ↓b_p_61_7, ↓b_g_61_8, ↓b_g_61_9, ↓b_g_61_10, ↓b_g_61_11, ↓b_g_61_12, ↓b_g_61_13, ↓b_g_61_14, ↓b_p_61_14, ↓b_g_61_15, ↓b_p_61_15, ↓b_g_61_16, ↓b_p_61_16, ↓b_g_61_17, ↓b_p_61_17, ↓b_g_61_18, ↓b_p_61_18, ↓b_g_61_19, ↓b_p_61_19, ↓b_g_61_20, ↓b_p_61_20, ↓b_g_61_21, ↓b_g_61_22, ↓b_p_61_22, ↓b_a_62, ↓b_s_62, ↓b_l_62, ↓b_a_63, ↓b_s_63, ↓b_l_63, ↓b_a_64, ↓b_s_64, ↓b_a_65, ↓b_s_65, ↓b_l_65, ↓b_a_66, ↓b_s_66, ↓b_l_66, ↓b_a_67, ↓b_s_67, ↓b_l_67, ↓b_a_68, ↓b_s_68, ↓b_l_68, ↓b_a_69, ↓b_s_69, ↓b_l_69, ↓b_a_70, ↓b_s_70, ↓b_l_70, ↓b_a_71, ↓b_s_71, ↓b_l_71, ↓b_a_72, ↓b_s_72, ↓b_l_72, ↓b_a_73, ↓b_s_73, ↓b_l_73, hPk, e1, e2, ↓ha, lshl1, wb_or hT h2, wb_or hT (show 0 < 2 ^ 64 by decide), lt0, Bool.false_eq_true, Bool.true_or, Bool.or_true, Bool.false_or, Bool.or_false]; done)
        | (rw [if_neg q1, decide_eq_false q2, decide_eq_false q3] at hst; simp only [Bool.true_or, Bool.or_true, Bool.false_or, Bool.or_false, Bool.true_and, Bool.and_true, Bool.false_and, Bool.and_false] at hst; subst hst; simp (disch := omega) only [UX12_broken_81, UX12_broken_103, UX12_broken_120, UX12_broken_162, UX12_broken_181, ↓qb_as, ↓qb_it, ↓qi_ap, ↓reduceIte, ↓qb_qr, ↓qr_ap, ↓qb_gd, ↓gd_ap, ↓qb_so, ↓in_ok, eu_ap, up_ap, er_ap, eB_ap, uL_ap, ltT, ltF, leT, leF, eqT, eqF, nltT, nltF, nleT, nleF, neqT, neqF, clN, nI_add, pk_mul, pk_sub, divN, remN, lLT, lLF, toL, eq_self, and_self, or_self, or_false, false_or, or_true, true_or, and_true, true_and, and_false, false_and, not_true_eq_false, not_false_eq_true, if_true, if_false, ite_true, ite_false, Nat.reduceAdd, Nat.reduceMul, Nat.reduceSub, Nat.reduceDiv, Nat.reduceMod, Nat.reducePow, Nat.reduceEqDiff, Nat.reduceLT, li_0, li_1, li_2, li_3, li_4, li_5, li_6, li_7, li_8, li_9, li_10, li_11, li_12, li_13, li_15, li_16, li_20, li_25, li_26, li_27, li_29, li_30, li_31, li_32, li_43, li_46, li_48, li_49, li_57, li_59, li_60, li_63, li_89, li_93, li_97, li_99, li_100, li_108, li_110, li_120, li_122, li_125, li_129, li_133, li_200, li_253, li_1000, lo_0, lo_1, lo_10, lo_109103333, lo_12, lo_12343, lo_13, lo_17382886, lo_2, lo_20, lo_20194900, lo_25, lo_255, lo_27, lo_3, lo_31, lo_32, lo_4, lo_4153, lo_5, lo_537076, lo_6, lo_7, lo_8, lo_821, lo_9, lo_97, lo_99, ↓b_cl_61, ↓b_g_61_0, ↓b_g_61_1, ↓b_g_61_2, ↓b_g_61_3, ↓b_g_61_4, ↓b_g_61_5, ↓b_p_61_5, ↓b_g_61_6, ↓b_p_61_6, ↓b_g_61_7, ↓b_p_61_7, ↓b_g_61_8, ↓b_g_61_9, ↓b_g_61_10, ↓b_g_61_11, ↓b_g_61_12, ↓b_g_61_13, ↓b_g_61_14, ↓b_p_61_14, ↓b_g_61_15, ↓b_p_61_15, ↓b_g_61_16, ↓b_p_61_16, ↓b_g_61_17, ↓b_p_61_17, ↓b_g_61_18, ↓b_p_61_18, ↓b_g_61_19, ↓b_p_61_19, ↓b_g_61_20, ↓b_p_61_20, ↓b_g_61_21, ↓b_g_61_22, ↓b_p_61_22, ↓b_a_62, ↓b_s_62, ↓b_l_62, ↓b_a_63, ↓b_s_63, ↓b_l_63, ↓b_a_64, ↓b_s_64, ↓b_a_65, ↓b_s_65, ↓b_l_65, ↓b_a_66, ↓b_s_66, ↓b_l_66, ↓b_a_67, ↓b_s_67, ↓b_l_67, ↓b_a_68, ↓b_s_68, ↓b_l_68, ↓b_a_69, ↓b_s_69, ↓b_l_69, ↓b_a_70, ↓b_s_70, ↓b_l_70, ↓b_a_71, ↓b_s_71, ↓b_l_71, ↓b_a_72, ↓b_s_72, ↓b_l_72, ↓b_a_73, ↓b_s_73, ↓b_l_73, hPk, e1, e2, ↓ha, lshl1, wb_or hT h2, wb_or hT (show 0 < 2 ^ 64 by decide), lt0, Bool.false_eq_true, Bool.true_or, Bool.or_true, Bool.false_or, Bool.or_false]; done)
    have k2 := key _ rfl
    have hT3 : (if plc lw sg m (j + 1) (k + 1) = true then T ||| 2 ^ (k + 1) else T) < 2 ^ 64 := by
      split
      · exact Nat.or_lt_two_pow hT h2
      · exact hT
    obtain ⟨T', e, g1, g2⟩ := ih (k + 1) N _ (by omega) (by omega) hT3 (fun l => by
      by_cases q1 : l = k + 1
      · subst q1
        rw [decide_eq_true (Nat.le_refl _), Bool.true_and]
        cases e : plc lw sg m (j + 1) (k + 1)
        · rw [if_neg (by decide), hbT, decide_eq_false (by omega), Bool.false_and]
        · rw [if_pos rfl, Nat.testBit_or, Nat.testBit_two_pow, decide_eq_true rfl, Bool.or_true]
      · have h3 : T.testBit l = (decide (l ≤ k + 1) && plc lw sg m (j + 1) l) := by
          rw [hbT l]
          by_cases q2 : l ≤ k
          · rw [decide_eq_true q2, decide_eq_true (show l ≤ k + 1 by omega)]
          · rw [decide_eq_false q2, decide_eq_false (show ¬ l ≤ k + 1 by omega)]
        split
        · rw [Nat.testBit_or, Nat.testBit_two_pow, decide_eq_false (by omega), Bool.or_false, h3]
        · exact h3)
    exact ⟨T', k2.trans e, g1, g2⟩
set_option maxRecDepth 100000 in
set_option maxHeartbeats 4000000 in
theorem w_b41 {t : Nat} (hs : sok t S) (hr : rR S (A 62)) (K : Int32 → Int64 → qP Int32) {m i : Nat} {sg : Nat → Nat} (hm : m ≤ 63) (hi : i < 4) (hsg : ∀ k, k < m → sg k < 26) (hat : ∀ k, k < m → ∀ K2 : Int32 → qP Int32, qb (FX12_signAt 61 (nI k)) K2 (enc A B f n) = K2 (nI (sg k)) (enc A B f n)) : ∀ (d j N P : Nat), j + d = S 8 i → d < N → P < 2 ^ 64 → (∀ l, l ≤ m → P.testBit l = plc (lwS S i) sg m j l) → ∃ P', WX12_broken_41 K N 61 (nI i) (nI m) (lN P) (nI j) (enc A B f n) = K (nI m) (lN P') (enc A B f n) ∧ P' < 2 ^ 64 ∧ ∀ l, l ≤ m → P'.testBit l = plc (lwS S i) sg m (S 8 i) l := by
  have d13 : A 62 (89 + i) = nI (S 8 i) := hr.2.2.2.2.2.2.2.2.2.2.2.2.2.1 i hi
  have d14 : ∀ j, j < S 8 i → A 62 (93 + 8 * i + j) = nI (lwS S i j) := fun j hj => hr.2.2.2.2.2.2.2.2.2.2.2.2.2.2.1 i j hi hj
  have hz := (hs.2.2.2.2.2.2.2.2.2.2.2.1 i hi)
  intro d
  induction d with
  | zero =>
    intro j N P hj hN hP hb
    obtain ⟨N, rfl⟩ : ∃ M, N = M + 1 := ⟨N - 1, by omega⟩
    have e : j = S 8 i := by omega
    subst e
    refine ⟨P, ?_, hP, hb⟩
    show UX12_broken_41 (WX12_broken_41 K N) K 61 (nI i) (nI m) (lN P) (nI (S 8 i)) (enc A B f n) = _
    simp (disch := omega) only [UX12_broken_41, ↓qb_as, ↓qb_it, ↓qi_ap, ↓reduceIte, ↓qb_qr, ↓qr_ap, ↓qb_gd, ↓gd_ap, ↓qb_so, ↓in_ok, eu_ap, up_ap, er_ap, eB_ap, uL_ap, ltT, ltF, leT, leF, eqT, eqF, nltT, nltF, nleT, nleF, neqT, neqF, clN, nI_add, pk_mul, pk_sub, divN, remN, lLT, lLF, toL, eq_self, and_self, or_self, or_false, false_or, or_true, true_or, and_true, true_and, and_false, false_and, not_true_eq_false, not_false_eq_true, if_true, if_false, ite_true, ite_false, Nat.reduceAdd, Nat.reduceMul, Nat.reduceSub, Nat.reduceDiv, Nat.reduceMod, Nat.reducePow, Nat.reduceEqDiff, Nat.reduceLT, li_0, li_1, li_2, li_3, li_4, li_5, li_6, li_7, li_8, li_9, li_10, li_11, li_12, li_13, li_15, li_16, li_20, li_25, li_26, li_27, li_29, li_30, li_31, li_32, li_43, li_46, li_48, li_49, li_57, li_59, li_60, li_63, li_89, li_93, li_97, li_99, li_100, li_108, li_110, li_120, li_122, li_125, li_129, li_133, li_200, li_253, li_1000, lo_0, lo_1, lo_10, lo_109103333, lo_12, lo_12343, lo_13, lo_17382886, lo_2, lo_20, lo_20194900, lo_25, lo_255, lo_27, lo_3, lo_31, lo_32, lo_4, lo_4153, lo_5, lo_537076, lo_6, lo_7, lo_8, lo_821, lo_9, lo_97, lo_99, ↓b_cl_61, ↓b_g_61_0, ↓b_g_61_1, ↓b_g_61_2, ↓b_g_61_3, ↓b_g_61_4, ↓b_g_61_5, ↓b_p_61_5, ↓b_g_61_6, ↓b_p_61_6, ↓b_g_61_7, ↓b_p_61_7, ↓b_g_61_8, ↓b_g_61_9, ↓b_g_61_10, ↓b_g_61_11, ↓b_g_61_12, ↓b_g_61_13, ↓b_g_61_14, ↓b_p_61_14, ↓b_g_61_15, ↓b_p_61_15, ↓b_g_61_16, ↓b_p_61_16, ↓b_g_61_17, ↓b_p_61_17, ↓b_g_61_18, ↓b_p_61_18, ↓b_g_61_19, ↓b_p_61_19, ↓b_g_61_20, ↓b_p_61_20, ↓b_g_61_21, ↓b_g_61_22, ↓b_p_61_22, ↓b_a_62, ↓b_s_62, ↓b_l_62, ↓b_a_63, ↓b_s_63, ↓b_l_63, ↓b_a_64, ↓b_s_64, ↓b_a_65, ↓b_s_65, ↓b_l_65, ↓b_a_66, ↓b_s_66, ↓b_l_66, ↓b_a_67, ↓b_s_67, ↓b_l_67, ↓b_a_68, ↓b_s_68, ↓b_l_68, ↓b_a_69, ↓b_s_69, ↓b_l_69, ↓b_a_70, ↓b_s_70, ↓b_l_70, ↓b_a_71, ↓b_s_71, ↓b_l_71, ↓b_a_72, ↓b_s_72, ↓b_l_72, ↓b_a_73, ↓b_s_73, ↓b_l_73, d13]
  | succ d ih =>
    intro j N P hj hN hP hb
    obtain ⟨N, rfl⟩ : ∃ M, N = M + 1 := ⟨N - 1, by omega⟩
    have hc : lwS S i j < 28 := hz.2 j (by omega)
    have hz1 := hz.1
    obtain ⟨T, e, g1, g2⟩ := w_b81 B f n (UX12_broken_190 (WX12_broken_41 K N) K) (nI i) (nI j) hm hc rfl hsg hat hP hb m 0 1000000 0 (by omega) (by omega) (by decide) (fun l => by
      rw [Nat.zero_testBit]
      by_cases q : l ≤ 0
      · have : l = 0 := by omega
        subst this
        rfl
      · rw [decide_eq_false q, Bool.false_and])
    obtain ⟨P', e2, g3, g4⟩ := ih (j + 1) N T (by omega) (by omega) g1 (fun l _ => g2 l)
    refine ⟨P', ?_, g3, g4⟩
    have d14j := d14 j (by omega)
    show UX12_broken_41 (WX12_broken_41 K N) K 61 (nI i) (nI m) (lN P) (nI j) (enc A B f n) = _
    simp (disch := omega) only [UX12_broken_41, ↓qb_as, ↓qb_it, ↓qi_ap, ↓reduceIte, ↓qb_qr, ↓qr_ap, ↓qb_gd, ↓gd_ap, ↓qb_so, ↓in_ok, eu_ap, up_ap, er_ap, eB_ap, uL_ap, ltT, ltF, leT, leF, eqT, eqF, nltT, nltF, nleT, nleF, neqT, neqF, clN, nI_add, pk_mul, pk_sub, divN, remN, lLT, lLF, toL, eq_self, and_self, or_self, or_false, false_or, or_true, true_or, and_true, true_and, and_false, false_and, not_true_eq_false, not_false_eq_true, if_true, if_false, ite_true, ite_false, Nat.reduceAdd, Nat.reduceMul, Nat.reduceSub, Nat.reduceDiv, Nat.reduceMod, Nat.reducePow, Nat.reduceEqDiff, Nat.reduceLT, li_0, li_1, li_2, li_3, li_4, li_5, li_6, li_7, li_8, li_9, li_10, li_11, li_12, li_13, li_15, li_16, li_20, li_25, li_26, li_27, li_29, li_30, li_31, li_32, li_43, li_46, li_48, li_49, li_57, li_59, li_60, li_63, li_89, li_93, li_97, li_99, li_100, li_108, li_110, li_120, li_122, li_125, li_129, li_133, li_200, li_253, li_1000, lo_0, lo_1, lo_10, lo_109103333, lo_12, lo_12343, lo_13, lo_17382886, lo_2, lo_20, lo_20194900, lo_25, lo_255, lo_27, lo_3, lo_31, lo_32, lo_4, lo_4153, lo_5, lo_537076, lo_6, lo_7, lo_8, lo_821, lo_9, lo_97, lo_99, ↓b_cl_61, ↓b_g_61_0, ↓b_g_61_1, ↓b_g_61_2, ↓b_g_61_3, ↓b_g_61_4, ↓b_g_61_5, ↓b_p_61_5, ↓b_g_61_6, ↓b_p_61_6, ↓b_g_61_7, ↓b_p_61_7, ↓b_g_61_8, ↓b_g_61_9, ↓b_g_61_10, ↓b_g_61_11, ↓b_g_61_12, ↓b_g_61_13, ↓b_g_61_14, ↓b_p_61_14, ↓b_g_61_15, ↓b_p_61_15, ↓b_g_61_16, ↓b_p_61_16, ↓b_g_61_17, ↓b_p_61_17, ↓b_g_61_18, ↓b_p_61_18, ↓b_g_61_19, ↓b_p_61_19, ↓b_g_61_20, ↓b_p_61_20, ↓b_g_61_21, ↓b_g_61_22, ↓b_p_61_22, ↓b_a_62, ↓b_s_62, ↓b_l_62, ↓b_a_63, ↓b_s_63, ↓b_l_63, ↓b_a_64, ↓b_s_64, ↓b_a_65, ↓b_s_65, ↓b_l_65, ↓b_a_66, ↓b_s_66, ↓b_l_66, ↓b_a_67, ↓b_s_67, ↓b_l_67, ↓b_a_68, ↓b_s_68, ↓b_l_68, ↓b_a_69, ↓b_s_69, ↓b_l_69, ↓b_a_70, ↓b_s_70, ↓b_l_70, ↓b_a_71, ↓b_s_71, ↓b_l_71, ↓b_a_72, ↓b_s_72, ↓b_l_72, ↓b_a_73, ↓b_s_73, ↓b_l_73, d13, d14j]
    refine Eq.trans e ?_
    simp (disch := omega) only [UX12_broken_190, ↓qb_as, ↓qb_it, ↓qi_ap, ↓reduceIte, ↓qb_qr, ↓qr_ap, ↓qb_gd, ↓gd_ap, ↓qb_so, ↓in_ok, eu_ap, up_ap, er_ap, eB_ap, uL_ap, ltT, ltF, leT, leF, eqT, eqF, nltT, nltF, nleT, nleF, neqT, neqF, clN, nI_add, pk_mul, pk_sub, divN, remN, lLT, lLF, toL, eq_self, and_self, or_self, or_false, false_or, or_true, true_or, and_true, true_and, and_false, false_and, not_true_eq_false, not_false_eq_true, if_true, if_false, ite_true, ite_false, Nat.reduceAdd, Nat.reduceMul, Nat.reduceSub, Nat.reduceDiv, Nat.reduceMod, Nat.reducePow, Nat.reduceEqDiff, Nat.reduceLT, li_0, li_1, li_2, li_3, li_4, li_5, li_6, li_7, li_8, li_9, li_10, li_11, li_12, li_13, li_15, li_16, li_20, li_25, li_26, li_27, li_29, li_30, li_31, li_32, li_43, li_46, li_48, li_49, li_57, li_59, li_60, li_63, li_89, li_93, li_97, li_99, li_100, li_108, li_110, li_120, li_122, li_125, li_129, li_133, li_200, li_253, li_1000, lo_0, lo_1, lo_10, lo_109103333, lo_12, lo_12343, lo_13, lo_17382886, lo_2, lo_20, lo_20194900, lo_25, lo_255, lo_27, lo_3, lo_31, lo_32, lo_4, lo_4153, lo_5, lo_537076, lo_6, lo_7, lo_8, lo_821, lo_9, lo_97, lo_99]
    exact e2
set_option maxRecDepth 100000 in
set_option maxHeartbeats 4000000 in
theorem y_broken {t : Nat} (hs : sok t S) (hr : rR S (A 62)) {m i : Nat} {sg : Nat → Nat} (hm : m ≤ 63) (hi : i < 4) (hsg : ∀ k, k < m → sg k < 26) (hat : ∀ k, k < m → ∀ K2 : Int32 → qP Int32, qb (FX12_signAt 61 (nI k)) K2 (enc A B f n) = K2 (nI (sg k)) (enc A B f n)) : ∃ v, FX12_broken 61 (nI i) (nI m) (enc A B f n) = some (v, enc A B f n) ∧ wSp (qq S i sg) m v := by
  have d13 : A 62 (89 + i) = nI (S 8 i) := hr.2.2.2.2.2.2.2.2.2.2.2.2.2.1 i hi
  have hz := (hs.2.2.2.2.2.2.2.2.2.2.2.1 i hi).1
  by_cases q : S 8 i = 0
  · refine ⟨-nI 1, ?_, Or.inl ⟨rfl, fun y hy => ?_⟩⟩
    · simp (disch := omega) only [FX12_broken, ↓qb_as, ↓qb_it, ↓qi_ap, ↓reduceIte, ↓qb_qr, ↓qr_ap, ↓qb_gd, ↓gd_ap, ↓qb_so, ↓in_ok, eu_ap, up_ap, er_ap, eB_ap, uL_ap, ltT, ltF, leT, leF, eqT, eqF, nltT, nltF, nleT, nleF, neqT, neqF, clN, nI_add, pk_mul, pk_sub, divN, remN, lLT, lLF, toL, eq_self, and_self, or_self, or_false, false_or, or_true, true_or, and_true, true_and, and_false, false_and, not_true_eq_false, not_false_eq_true, if_true, if_false, ite_true, ite_false, Nat.reduceAdd, Nat.reduceMul, Nat.reduceSub, Nat.reduceDiv, Nat.reduceMod, Nat.reducePow, Nat.reduceEqDiff, Nat.reduceLT, li_0, li_1, li_2, li_3, li_4, li_5, li_6, li_7, li_8, li_9, li_10, li_11, li_12, li_13, li_15, li_16, li_20, li_25, li_26, li_27, li_29, li_30, li_31, li_32, li_43, li_46, li_48, li_49, li_57, li_59, li_60, li_63, li_89, li_93, li_97, li_99, li_100, li_108, li_110, li_120, li_122, li_125, li_129, li_133, li_200, li_253, li_1000, lo_0, lo_1, lo_10, lo_109103333, lo_12, lo_12343, lo_13, lo_17382886, lo_2, lo_20, lo_20194900, lo_25, lo_255, lo_27, lo_3, lo_31, lo_32, lo_4, lo_4153, lo_5, lo_537076, lo_6, lo_7, lo_8, lo_821, lo_9, lo_97, lo_99, ↓b_cl_61, ↓b_g_61_0, ↓b_g_61_1, ↓b_g_61_2, ↓b_g_61_3, ↓b_g_61_4, ↓b_g_61_5, ↓b_p_61_5, ↓b_g_61_6, ↓b_p_61_6, ↓b_g_61_7, ↓b_p_61_7, ↓b_g_61_8, ↓b_g_61_9, ↓b_g_61_10, ↓b_g_61_11, ↓b_g_61_12, ↓b_g_61_13, ↓b_g_61_14, ↓b_p_61_14, ↓b_g_61_15, ↓b_p_61_15, ↓b_g_61_16, ↓b_p_61_16, ↓b_g_61_17, ↓b_p_61_17, ↓b_g_61_18, ↓b_p_61_18, ↓b_g_61_19, ↓b_p_61_19, ↓b_g_61_20, ↓b_p_61_20, ↓b_g_61_21, ↓b_g_61_22, ↓b_p_61_22, ↓b_a_62, ↓b_s_62, ↓b_l_62, ↓b_a_63, ↓b_s_63, ↓b_l_63, ↓b_a_64, ↓b_s_64, ↓b_a_65, ↓b_s_65, ↓b_l_65, ↓b_a_66, ↓b_s_66, ↓b_l_66, ↓b_a_67, ↓b_s_67, ↓b_l_67, ↓b_a_68, ↓b_s_68, ↓b_l_68, ↓b_a_69, ↓b_s_69, ↓b_l_69, ↓b_a_70, ↓b_s_70, ↓b_l_70, ↓b_a_71, ↓b_s_71, ↓b_l_71, ↓b_a_72, ↓b_s_72, ↓b_l_72, ↓b_a_73, ↓b_s_73, ↓b_l_73, d13]
    · unfold qq; rw [q]; rfl
  · obtain ⟨P, e1, g1, g2⟩ := w_b19 UX12_broken_38 (nI i) hm (enc A B f n) (m + 1) 0 1000000 0 (by omega) (by omega) (by decide) (fun l => by rw [Nat.zero_testBit, decide_eq_false (by omega)])
    obtain ⟨P', e2, g3, g4⟩ := w_b41 B f n hs hr UX12_broken_199 hm hi hsg hat (S 8 i) 0 1000000 P (by omega) (by omega) g1 (fun l hl => g2 l)
    obtain ⟨v, e3, g5⟩ := w_b205 (q := qq S i sg) hm g3 (fun l h1 h2 => by
      rw [g4 l h2, plc_rch hsg l h2 (S 8 i) (Nat.le_refl _), decide_eq_false q, Bool.false_or]
      unfold qq
      rw [decide_eq_true (show 0 < S 8 i by omega), Bool.true_and]) (enc A B f n) m 1000000 (-nI 1) (Nat.le_refl _) (by omega) (Or.inl ⟨rfl, fun y h1 h2 => by omega⟩)
    refine ⟨v, ?_, g5⟩
    simp (disch := omega) only [FX12_broken, ↓qb_as, ↓qb_it, ↓qi_ap, ↓reduceIte, ↓qb_qr, ↓qr_ap, ↓qb_gd, ↓gd_ap, ↓qb_so, ↓in_ok, eu_ap, up_ap, er_ap, eB_ap, uL_ap, ltT, ltF, leT, leF, eqT, eqF, nltT, nltF, nleT, nleF, neqT, neqF, clN, nI_add, pk_mul, pk_sub, divN, remN, lLT, lLF, toL, eq_self, and_self, or_self, or_false, false_or, or_true, true_or, and_true, true_and, and_false, false_and, not_true_eq_false, not_false_eq_true, if_true, if_false, ite_true, ite_false, Nat.reduceAdd, Nat.reduceMul, Nat.reduceSub, Nat.reduceDiv, Nat.reduceMod, Nat.reducePow, Nat.reduceEqDiff, Nat.reduceLT, li_0, li_1, li_2, li_3, li_4, li_5, li_6, li_7, li_8, li_9, li_10, li_11, li_12, li_13, li_15, li_16, li_20, li_25, li_26, li_27, li_29, li_30, li_31, li_32, li_43, li_46, li_48, li_49, li_57, li_59, li_60, li_63, li_89, li_93, li_97, li_99, li_100, li_108, li_110, li_120, li_122, li_125, li_129, li_133, li_200, li_253, li_1000, lo_0, lo_1, lo_10, lo_109103333, lo_12, lo_12343, lo_13, lo_17382886, lo_2, lo_20, lo_20194900, lo_25, lo_255, lo_27, lo_3, lo_31, lo_32, lo_4, lo_4153, lo_5, lo_537076, lo_6, lo_7, lo_8, lo_821, lo_9, lo_97, lo_99, ↓b_cl_61, ↓b_g_61_0, ↓b_g_61_1, ↓b_g_61_2, ↓b_g_61_3, ↓b_g_61_4, ↓b_g_61_5, ↓b_p_61_5, ↓b_g_61_6, ↓b_p_61_6, ↓b_g_61_7, ↓b_p_61_7, ↓b_g_61_8, ↓b_g_61_9, ↓b_g_61_10, ↓b_g_61_11, ↓b_g_61_12, ↓b_g_61_13, ↓b_g_61_14, ↓b_p_61_14, ↓b_g_61_15, ↓b_p_61_15, ↓b_g_61_16, ↓b_p_61_16, ↓b_g_61_17, ↓b_p_61_17, ↓b_g_61_18, ↓b_p_61_18, ↓b_g_61_19, ↓b_p_61_19, ↓b_g_61_20, ↓b_p_61_20, ↓b_g_61_21, ↓b_g_61_22, ↓b_p_61_22, ↓b_a_62, ↓b_s_62, ↓b_l_62, ↓b_a_63, ↓b_s_63, ↓b_l_63, ↓b_a_64, ↓b_s_64, ↓b_a_65, ↓b_s_65, ↓b_l_65, ↓b_a_66, ↓b_s_66, ↓b_l_66, ↓b_a_67, ↓b_s_67, ↓b_l_67, ↓b_a_68, ↓b_s_68, ↓b_l_68, ↓b_a_69, ↓b_s_69, ↓b_l_69, ↓b_a_70, ↓b_s_70, ↓b_l_70, ↓b_a_71, ↓b_s_71, ↓b_l_71, ↓b_a_72, ↓b_s_72, ↓b_l_72, ↓b_a_73, ↓b_s_73, ↓b_l_73, d13]
    refine Eq.trans e1 ?_
    unfold UX12_broken_38
    refine Eq.trans e2 ?_
    exact e3
set_option maxRecDepth 100000 in
set_option maxHeartbeats 4000000 in
theorem w_sil {t : Nat} (hs : sok t S) (hr : rR S (A 62)) {m : Nat} {sg : Nat → Nat} (hm : m ≤ 63) (hsg : ∀ k, k < m → sg k < 26) (hat : ∀ k, k < m → ∀ K2 : Int32 → qP Int32, qb (FX12_signAt 61 (nI k)) K2 (enc A B f n) = K2 (nI (sg k)) (enc A B f n)) : ∀ (d i N V : Nat), i + d = 4 → d < N → V < 2 ^ i → (∀ l, V.testBit l = true ↔ (l < i ∧ silP S sg m l)) → ∃ V', WX12_silentIn_4 N 61 (nI m) (nI V) (nI i) (enc A B f n) = some (nI V', enc A B f n) ∧ V' < 16 ∧ ∀ l, V'.testBit l = true ↔ (l < 4 ∧ silP S sg m l) := by
  intro d
  induction d with
  | zero =>
    intro i N V hi hN hV hb
    obtain ⟨N, rfl⟩ : ∃ M, N = M + 1 := ⟨N - 1, by omega⟩
    have e4 : i = 4 := by omega
    subst e4
    refine ⟨V, ?_, hV, hb⟩
    show UX12_silentIn_4 (WX12_silentIn_4 N) 61 (nI m) (nI V) (nI 4) (enc A B f n) = _
    simp (disch := omega) only [UX12_silentIn_4, ↓qb_as, ↓qb_it, ↓qi_ap, ↓reduceIte, ↓qb_qr, ↓qr_ap, ↓qb_gd, ↓gd_ap, ↓qb_so, ↓in_ok, eu_ap, up_ap, er_ap, eB_ap, uL_ap, ltT, ltF, leT, leF, eqT, eqF, nltT, nltF, nleT, nleF, neqT, neqF, clN, nI_add, pk_mul, pk_sub, divN, remN, lLT, lLF, toL, eq_self, and_self, or_self, or_false, false_or, or_true, true_or, and_true, true_and, and_false, false_and, not_true_eq_false, not_false_eq_true, if_true, if_false, ite_true, ite_false, Nat.reduceAdd, Nat.reduceMul, Nat.reduceSub, Nat.reduceDiv, Nat.reduceMod, Nat.reducePow, Nat.reduceEqDiff, Nat.reduceLT, li_0, li_1, li_2, li_3, li_4, li_5, li_6, li_7, li_8, li_9, li_10, li_11, li_12, li_13, li_15, li_16, li_20, li_25, li_26, li_27, li_29, li_30, li_31, li_32, li_43, li_46, li_48, li_49, li_57, li_59, li_60, li_63, li_89, li_93, li_97, li_99, li_100, li_108, li_110, li_120, li_122, li_125, li_129, li_133, li_200, li_253, li_1000, lo_0, lo_1, lo_10, lo_109103333, lo_12, lo_12343, lo_13, lo_17382886, lo_2, lo_20, lo_20194900, lo_25, lo_255, lo_27, lo_3, lo_31, lo_32, lo_4, lo_4153, lo_5, lo_537076, lo_6, lo_7, lo_8, lo_821, lo_9, lo_97, lo_99, ↓b_cl_61, ↓b_g_61_0, ↓b_g_61_1, ↓b_g_61_2, ↓b_g_61_3, ↓b_g_61_4, ↓b_g_61_5, ↓b_p_61_5, ↓b_g_61_6, ↓b_p_61_6, ↓b_g_61_7, ↓b_p_61_7, ↓b_g_61_8, ↓b_g_61_9, ↓b_g_61_10, ↓b_g_61_11, ↓b_g_61_12, ↓b_g_61_13, ↓b_g_61_14, ↓b_p_61_14, ↓b_g_61_15, ↓b_p_61_15, ↓b_g_61_16, ↓b_p_61_16, ↓b_g_61_17, ↓b_p_61_17, ↓b_g_61_18, ↓b_p_61_18, ↓b_g_61_19, ↓b_p_61_19, ↓b_g_61_20, ↓b_p_61_20, ↓b_g_61_21, ↓b_g_61_22, ↓b_p_61_22, ↓b_a_62, ↓b_s_62, ↓b_l_62, ↓b_a_63, ↓b_s_63, ↓b_l_63, ↓b_a_64, ↓b_s_64, ↓b_a_65, ↓b_s_65, ↓b_l_65, ↓b_a_66, ↓b_s_66, ↓b_l_66, ↓b_a_67, ↓b_s_67, ↓b_l_67, ↓b_a_68, ↓b_s_68, ↓b_l_68, ↓b_a_69, ↓b_s_69, ↓b_l_69, ↓b_a_70, ↓b_s_70, ↓b_l_70, ↓b_a_71, ↓b_s_71, ↓b_l_71, ↓b_a_72, ↓b_s_72, ↓b_l_72, ↓b_a_73, ↓b_s_73, ↓b_l_73]
  | succ d ih =>
    intro i N V hi hN hV hb
    obtain ⟨N, rfl⟩ : ∃ M, N = M + 1 := ⟨N - 1, by omega⟩
    obtain ⟨v, e, g⟩ := y_broken B f n hs hr hm (show i < 4 by omega) hsg hat
    have hm2 := wSp_m (by omega) g
    have hV2 : V < 2 ^ (i + 1) := Nat.lt_of_lt_of_le hV (Nat.pow_le_pow_right (by decide) (by omega))
    have lt0 : V ||| 0 = V := Nat.or_zero V
    show ∃ V', UX12_silentIn_4 (WX12_silentIn_4 N) 61 (nI m) (nI V) (nI i) (enc A B f n) = _ ∧ _
    by_cases q : v = -nI 1
    · obtain ⟨V', e2, g1, g2⟩ := ih (i + 1) N (V ||| 2 ^ i) (by omega) (by omega) (Nat.or_lt_two_pow hV2 (Nat.pow_lt_pow_right (by decide) (by omega))) (fun l => by
        rw [Nat.testBit_or, Nat.testBit_two_pow, Bool.or_eq_true, hb l, decide_eq_true_iff]
        constructor
        · rintro (⟨h1, h2⟩ | rfl)
          · exact ⟨by omega, h2⟩
          · exact ⟨by omega, hm2.mp q⟩
        · rintro ⟨h1, h2⟩
          by_cases q2 : i = l
          · exact Or.inr q2
          · exact Or.inl ⟨by omega, h2⟩)
      refine ⟨V', ?_, g1, g2⟩
      simp (disch := omega) only [UX12_silentIn_4, UX12_silentIn_27, ↓qb_as, ↓qb_it, ↓qi_ap, ↓reduceIte, ↓qb_qr, ↓qr_ap, ↓qb_gd, ↓gd_ap, ↓qb_so, ↓in_ok, eu_ap, up_ap, er_ap, eB_ap, uL_ap, ltT, ltF, leT, leF, eqT, eqF, nltT, nltF, nleT, nleF, neqT, neqF, clN, nI_add, pk_mul, pk_sub, divN, remN, lLT, lLF, toL, eq_self, and_self, or_self, or_false, false_or, or_true, true_or, and_true, true_and, and_false, false_and, not_true_eq_false, not_false_eq_true, if_true, if_false, ite_true, ite_false, Nat.reduceAdd, Nat.reduceMul, Nat.reduceSub, Nat.reduceDiv, Nat.reduceMod, Nat.reducePow, Nat.reduceEqDiff, Nat.reduceLT, li_0, li_1, li_2, li_3, li_4, li_5, li_6, li_7, li_8, li_9, li_10, li_11, li_12, li_13, li_15, li_16, li_20, li_25, li_26, li_27, li_29, li_30, li_31, li_32, li_43, li_46, li_48, li_49, li_57, li_59, li_60, li_63, li_89, li_93, li_97, li_99, li_100, li_108, li_110, li_120, li_122, li_125, li_129, li_133, li_200, li_253, li_1000, lo_0, lo_1, lo_10, lo_109103333, lo_12, lo_12343, lo_13, lo_17382886, lo_2, lo_20, lo_20194900, lo_25, lo_255, lo_27, lo_3, lo_31, lo_32, lo_4, lo_4153, lo_5, lo_537076, lo_6, lo_7, lo_8, lo_821, lo_9, lo_97, lo_99, ↓b_cl_61, ↓b_g_61_0, ↓b_g_61_1, ↓b_g_61_2, ↓b_g_61_3, ↓b_g_61_4, ↓b_g_61_5, ↓b_p_61_5, ↓b_g_61_6, ↓b_p_61_6, ↓b_g_61_7, ↓b_p_61_7, ↓b_g_61_8, ↓b_g_61_9, ↓b_g_61_10, ↓b_g_61_11, ↓b_g_61_12, ↓b_g_61_13, ↓b_g_61_14, ↓b_p_61_14, ↓b_g_61_15, ↓b_p_61_15, ↓b_g_61_16, ↓b_p_61_16, ↓b_g_61_17, ↓b_p_61_17, ↓b_g_61_18, ↓b_p_61_18, ↓b_g_61_19, ↓b_p_61_19, ↓b_g_61_20, ↓b_p_61_20, ↓b_g_61_21, ↓b_g_61_22, ↓b_p_61_22, ↓b_a_62, ↓b_s_62, ↓b_l_62, ↓b_a_63, ↓b_s_63, ↓b_l_63, ↓b_a_64, ↓b_s_64, ↓b_a_65, ↓b_s_65, ↓b_l_65, ↓b_a_66, ↓b_s_66, ↓b_l_66, ↓b_a_67, ↓b_s_67, ↓b_l_67, ↓b_a_68, ↓b_s_68, ↓b_l_68, ↓b_a_69, ↓b_s_69, ↓b_l_69, ↓b_a_70, ↓b_s_70, ↓b_l_70, ↓b_a_71, ↓b_s_71, ↓b_l_71, ↓b_a_72, ↓b_s_72, ↓b_l_72, ↓b_a_73, ↓b_s_73, ↓b_l_73, ↓qb_of e, q, orN, shl1]
      exact e2
    · obtain ⟨V', e2, g1, g2⟩ := ih (i + 1) N V (by omega) (by omega) hV2 (fun l => by
        rw [hb l]
        constructor
        · rintro ⟨h1, h2⟩
          exact ⟨by omega, h2⟩
        · rintro ⟨h1, h2⟩
          by_cases q2 : i = l
          · subst q2; exact absurd (hm2.mpr h2) q
          · exact ⟨by omega, h2⟩)
      refine ⟨V', ?_, g1, g2⟩
      simp (disch := omega) only [UX12_silentIn_4, UX12_silentIn_27, ↓qb_as, ↓qb_it, ↓qi_ap, ↓reduceIte, ↓qb_qr, ↓qr_ap, ↓qb_gd, ↓gd_ap, ↓qb_so, ↓in_ok, eu_ap, up_ap, er_ap, eB_ap, uL_ap, ltT, ltF, leT, leF, eqT, eqF, nltT, nltF, nleT, nleF, neqT, neqF, clN, nI_add, pk_mul, pk_sub, divN, remN, lLT, lLF, toL, eq_self, and_self, or_self, or_false, false_or, or_true, true_or, and_true, true_and, and_false, false_and, not_true_eq_false, not_false_eq_true, if_true, if_false, ite_true, ite_false, Nat.reduceAdd, Nat.reduceMul, Nat.reduceSub, Nat.reduceDiv, Nat.reduceMod, Nat.reducePow, Nat.reduceEqDiff, Nat.reduceLT, li_0, li_1, li_2, li_3, li_4, li_5, li_6, li_7, li_8, li_9, li_10, li_11, li_12, li_13, li_15, li_16, li_20, li_25, li_26, li_27, li_29, li_30, li_31, li_32, li_43, li_46, li_48, li_49, li_57, li_59, li_60, li_63, li_89, li_93, li_97, li_99, li_100, li_108, li_110, li_120, li_122, li_125, li_129, li_133, li_200, li_253, li_1000, lo_0, lo_1, lo_10, lo_109103333, lo_12, lo_12343, lo_13, lo_17382886, lo_2, lo_20, lo_20194900, lo_25, lo_255, lo_27, lo_3, lo_31, lo_32, lo_4, lo_4153, lo_5, lo_537076, lo_6, lo_7, lo_8, lo_821, lo_9, lo_97, lo_99, ↓b_cl_61, ↓b_g_61_0, ↓b_g_61_1, ↓b_g_61_2, ↓b_g_61_3, ↓b_g_61_4, ↓b_g_61_5, ↓b_p_61_5, ↓b_g_61_6, ↓b_p_61_6, ↓b_g_61_7, ↓b_p_61_7, ↓b_g_61_8, ↓b_g_61_9, ↓b_g_61_10, ↓b_g_61_11, ↓b_g_61_12, ↓b_g_61_13, ↓b_g_61_14, ↓b_p_61_14, ↓b_g_61_15, ↓b_p_61_15, ↓b_g_61_16, ↓b_p_61_16, ↓b_g_61_17, ↓b_p_61_17, ↓b_g_61_18, ↓b_p_61_18, ↓b_g_61_19, ↓b_p_61_19, ↓b_g_61_20, ↓b_p_61_20, ↓b_g_61_21, ↓b_g_61_22, ↓b_p_61_22, ↓b_a_62, ↓b_s_62, ↓b_l_62, ↓b_a_63, ↓b_s_63, ↓b_l_63, ↓b_a_64, ↓b_s_64, ↓b_a_65, ↓b_s_65, ↓b_l_65, ↓b_a_66, ↓b_s_66, ↓b_l_66, ↓b_a_67, ↓b_s_67, ↓b_l_67, ↓b_a_68, ↓b_s_68, ↓b_l_68, ↓b_a_69, ↓b_s_69, ↓b_l_69, ↓b_a_70, ↓b_s_70, ↓b_l_70, ↓b_a_71, ↓b_s_71, ↓b_l_71, ↓b_a_72, ↓b_s_72, ↓b_l_72, ↓b_a_73, ↓b_s_73, ↓b_l_73, ↓qb_of e, if_neg q, orN, lt0]
      exact e2
theorem y_sil {t : Nat} (hs : sok t S) (hr : rR S (A 62)) {m : Nat} {sg : Nat → Nat} (hm : m ≤ 63) (hsg : ∀ k, k < m → sg k < 26) (hat : ∀ k, k < m → ∀ K2 : Int32 → qP Int32, qb (FX12_signAt 61 (nI k)) K2 (enc A B f n) = K2 (nI (sg k)) (enc A B f n)) : ∃ V', FX12_silentIn 61 (nI m) (enc A B f n) = some (nI V', enc A B f n) ∧ V' < 16 ∧ ∀ l, V'.testBit l = true ↔ (l < 4 ∧ silP S sg m l) :=
  w_sil B f n hs hr hm hsg hat 4 0 1000000 0 (by omega) (by omega) (by decide) (fun l => by rw [Nat.zero_testBit]; exact ⟨fun h => (by cases h), fun h => by omega⟩)
theorem y_at {t : Nat} (hs : sok t S) (hr : rR S (A 62)) : ∀ k, k < S 0 3 → ∀ K2 : Int32 → qP Int32, qb (FX12_signAt 61 (nI k)) K2 (enc A B f n) = K2 (nI (S 6 k)) (enc A B f n) := by
  intro k hk K2
  have z3 := hs.2.2.2.1
  have d3 : A 62 3 = nI (S 0 3) := hr.2.2.2.1
  have d12 : A 62 (29 + k) = nI (S 6 k) := hr.2.2.2.2.2.2.2.2.2.2.2.2.1 k hk
  simp (disch := omega) only [FX12_signAt, ↓qb_as, ↓qb_it, ↓qi_ap, ↓reduceIte, ↓qb_qr, ↓qr_ap, ↓qb_gd, ↓gd_ap, ↓qb_so, ↓in_ok, eu_ap, up_ap, er_ap, eB_ap, uL_ap, ltT, ltF, leT, leF, eqT, eqF, nltT, nltF, nleT, nleF, neqT, neqF, clN, nI_add, pk_mul, pk_sub, divN, remN, lLT, lLF, toL, eq_self, and_self, or_self, or_false, false_or, or_true, true_or, and_true, true_and, and_false, false_and, not_true_eq_false, not_false_eq_true, if_true, if_false, ite_true, ite_false, Nat.reduceAdd, Nat.reduceMul, Nat.reduceSub, Nat.reduceDiv, Nat.reduceMod, Nat.reducePow, Nat.reduceEqDiff, Nat.reduceLT, li_0, li_1, li_2, li_3, li_4, li_5, li_6, li_7, li_8, li_9, li_10, li_11, li_12, li_13, li_15, li_16, li_20, li_25, li_26, li_27, li_29, li_30, li_31, li_32, li_43, li_46, li_48, li_49, li_57, li_59, li_60, li_63, li_89, li_93, li_97, li_99, li_100, li_108, li_110, li_120, li_122, li_125, li_129, li_133, li_200, li_253, li_1000, lo_0, lo_1, lo_10, lo_109103333, lo_12, lo_12343, lo_13, lo_17382886, lo_2, lo_20, lo_20194900, lo_25, lo_255, lo_27, lo_3, lo_31, lo_32, lo_4, lo_4153, lo_5, lo_537076, lo_6, lo_7, lo_8, lo_821, lo_9, lo_97, lo_99, ↓b_cl_61, ↓b_g_61_0, ↓b_g_61_1, ↓b_g_61_2, ↓b_g_61_3, ↓b_g_61_4, ↓b_g_61_5, ↓b_p_61_5, ↓b_g_61_6, ↓b_p_61_6, ↓b_g_61_7, ↓b_p_61_7, ↓b_g_61_8, ↓b_g_61_9, ↓b_g_61_10, ↓b_g_61_11, ↓b_g_61_12, ↓b_g_61_13, ↓b_g_61_14, ↓b_p_61_14, ↓b_g_61_15, ↓b_p_61_15, ↓b_g_61_16, ↓b_p_61_16, ↓b_g_61_17, ↓b_p_61_17, ↓b_g_61_18, ↓b_p_61_18, ↓b_g_61_19, ↓b_p_61_19, ↓b_g_61_20, ↓b_p_61_20, ↓b_g_61_21, ↓b_g_61_22, ↓b_p_61_22, ↓b_a_62, ↓b_s_62, ↓b_l_62, ↓b_a_63, ↓b_s_63, ↓b_l_63, ↓b_a_64, ↓b_s_64, ↓b_a_65, ↓b_s_65, ↓b_l_65, ↓b_a_66, ↓b_s_66, ↓b_l_66, ↓b_a_67, ↓b_s_67, ↓b_l_67, ↓b_a_68, ↓b_s_68, ↓b_l_68, ↓b_a_69, ↓b_s_69, ↓b_l_69, ↓b_a_70, ↓b_s_70, ↓b_l_70, ↓b_a_71, ↓b_s_71, ↓b_l_71, ↓b_a_72, ↓b_s_72, ↓b_l_72, ↓b_a_73, ↓b_s_73, ↓b_l_73, d3, d12]
end BR
set_option maxRecDepth 100000 in
set_option maxHeartbeats 4000000 in
theorem k_word (a0 : Int32) (t : Nat) (ht : t < 65) (h : qH) (hI : eInv t h) : eStep eInv (FX11_word 0 a0) (FX12_word 61 a0) t h := by
  obtain ⟨S, A, B, f, n, rfl, hI⟩ := hI
  have hI0 := hI
  obtain ⟨hs, hr, hb, hi, ho⟩ := hI
  have z3 := hs.2.2.2.1
  rcases i_ofN a0 with g0 | ⟨a, ga, rfl⟩
  · refine step_bad hI0 0 (by decide) (-nI 2) ?_ (fun A' w1 w2 w3 => ?_)
    · simp (disch := omega) only [FX11_word, UX11_word_24, FX0_isLaw, ↓qb_as, ↓qb_it, ↓qi_ap, ↓reduceIte, ↓qb_qr, ↓qr_ap, ↓qb_gd, ↓gd_ap, ↓qb_so, ↓in_ok, eu_ap, up_ap, er_ap, eB_ap, uL_ap, ltT, ltF, leT, leF, eqT, eqF, nltT, nltF, nleT, nleF, neqT, neqF, clN, nI_add, pk_mul, pk_sub, divN, remN, lLT, lLF, toL, eq_self, and_self, or_self, or_false, false_or, or_true, true_or, and_true, true_and, and_false, false_and, not_true_eq_false, not_false_eq_true, if_true, if_false, ite_true, ite_false, Nat.reduceAdd, Nat.reduceMul, Nat.reduceSub, Nat.reduceDiv, Nat.reduceMod, Nat.reducePow, Nat.reduceEqDiff, Nat.reduceLT, li_0, li_1, li_2, li_3, li_4, li_5, li_6, li_7, li_8, li_9, li_10, li_11, li_12, li_13, li_15, li_16, li_20, li_25, li_26, li_27, li_29, li_30, li_31, li_32, li_43, li_46, li_48, li_49, li_57, li_59, li_60, li_63, li_89, li_93, li_97, li_99, li_100, li_108, li_110, li_120, li_122, li_125, li_129, li_133, li_200, li_253, li_1000, lo_0, lo_1, lo_10, lo_109103333, lo_12, lo_12343, lo_13, lo_17382886, lo_2, lo_20, lo_20194900, lo_25, lo_255, lo_27, lo_3, lo_31, lo_32, lo_4, lo_4153, lo_5, lo_537076, lo_6, lo_7, lo_8, lo_821, lo_9, lo_97, lo_99, ↓b_cl_0, ↓b_g_0_0, ↓b_g_0_1, ↓b_g_0_2, ↓b_g_0_3, ↓b_g_0_4, ↓b_g_0_5, ↓b_p_0_5, ↓b_g_0_6, ↓b_p_0_6, ↓b_g_0_7, ↓b_p_0_7, ↓b_g_0_8, ↓b_p_0_8, ↓b_g_0_9, ↓b_p_0_9, ↓b_cl_1, ↓b_g_1_0, ↓b_g_1_1, ↓b_g_1_2, ↓b_g_1_3, ↓b_g_1_4, ↓b_p_1_4, ↓b_g_1_5, ↓b_p_1_5, ↓b_g_1_6, ↓b_g_1_7, ↓b_g_1_8, ↓b_p_1_8, ↓b_g_1_9, ↓b_g_1_10, ↓b_q_2, ↓b_l_2, ↓b_cl_3, ↓b_cl_4, ↓b_cl_5, ↓b_cl_6, ↓b_cl_7, ↓b_cl_8, ↓b_a_9, ↓b_s_9, ↓b_l_9, ↓b_a_10, ↓b_s_10, ↓b_l_10, ↓b_a_11, ↓b_s_11, ↓b_l_11, ↓b_a_12, ↓b_s_12, ↓b_l_12, ↓b_a_13, ↓b_s_13, ↓b_l_13, ↓b_cl_14, ↓b_g_14_0, ↓b_g_14_1, ↓b_p_14_1, ↓b_g_14_2, ↓b_g_14_3, ↓b_g_14_4, ↓b_g_14_5, ↓b_a_15, ↓b_s_15, ↓b_l_15, ↓b_a_16, ↓b_s_16, ↓b_l_16, ↓b_a_17, ↓b_s_17, ↓b_l_17, ↓b_a_18, ↓b_s_18, ↓b_l_18, ↓b_a_19, ↓b_s_19, ↓b_l_19, ↓b_cl_20, ↓b_g_20_0, ↓b_g_20_1, ↓b_g_20_2, ↓b_a_21, ↓b_s_21, ↓b_l_21, ↓b_a_22, ↓b_s_22, ↓b_l_22, ↓b_a_23, ↓b_s_23, ↓b_l_23, ↓c_bad, ltN g0, leN g0, leN2 g0, ltN2 g0, eqN g0]
    · simp (disch := omega) only [FX12_word, ↓qb_as, ↓qb_it, ↓qi_ap, ↓reduceIte, ↓qb_qr, ↓qr_ap, ↓qb_gd, ↓gd_ap, ↓qb_so, ↓in_ok, eu_ap, up_ap, er_ap, eB_ap, uL_ap, ltT, ltF, leT, leF, eqT, eqF, nltT, nltF, nleT, nleF, neqT, neqF, clN, nI_add, pk_mul, pk_sub, divN, remN, lLT, lLF, toL, eq_self, and_self, or_self, or_false, false_or, or_true, true_or, and_true, true_and, and_false, false_and, not_true_eq_false, not_false_eq_true, if_true, if_false, ite_true, ite_false, Nat.reduceAdd, Nat.reduceMul, Nat.reduceSub, Nat.reduceDiv, Nat.reduceMod, Nat.reducePow, Nat.reduceEqDiff, Nat.reduceLT, li_0, li_1, li_2, li_3, li_4, li_5, li_6, li_7, li_8, li_9, li_10, li_11, li_12, li_13, li_15, li_16, li_20, li_25, li_26, li_27, li_29, li_30, li_31, li_32, li_43, li_46, li_48, li_49, li_57, li_59, li_60, li_63, li_89, li_93, li_97, li_99, li_100, li_108, li_110, li_120, li_122, li_125, li_129, li_133, li_200, li_253, li_1000, lo_0, lo_1, lo_10, lo_109103333, lo_12, lo_12343, lo_13, lo_17382886, lo_2, lo_20, lo_20194900, lo_25, lo_255, lo_27, lo_3, lo_31, lo_32, lo_4, lo_4153, lo_5, lo_537076, lo_6, lo_7, lo_8, lo_821, lo_9, lo_97, lo_99, ↓b_cl_61, ↓b_g_61_0, ↓b_g_61_1, ↓b_g_61_2, ↓b_g_61_3, ↓b_g_61_4, ↓b_g_61_5, ↓b_p_61_5, ↓b_g_61_6, ↓b_p_61_6, ↓b_g_61_7, ↓b_p_61_7, ↓b_g_61_8, ↓b_g_61_9, ↓b_g_61_10, ↓b_g_61_11, ↓b_g_61_12, ↓b_g_61_13, ↓b_g_61_14, ↓b_p_61_14, ↓b_g_61_15, ↓b_p_61_15, ↓b_g_61_16, ↓b_p_61_16, ↓b_g_61_17, ↓b_p_61_17, ↓b_g_61_18, ↓b_p_61_18, ↓b_g_61_19, ↓b_p_61_19, ↓b_g_61_20, ↓b_p_61_20, ↓b_g_61_21, ↓b_g_61_22, ↓b_p_61_22, ↓b_a_62, ↓b_s_62, ↓b_l_62, ↓b_a_63, ↓b_s_63, ↓b_l_63, ↓b_a_64, ↓b_s_64, ↓b_a_65, ↓b_s_65, ↓b_l_65, ↓b_a_66, ↓b_s_66, ↓b_l_66, ↓b_a_67, ↓b_s_67, ↓b_l_67, ↓b_a_68, ↓b_s_68, ↓b_l_68, ↓b_a_69, ↓b_s_69, ↓b_l_69, ↓b_a_70, ↓b_s_70, ↓b_l_70, ↓b_a_71, ↓b_s_71, ↓b_l_71, ↓b_a_72, ↓b_s_72, ↓b_l_72, ↓b_a_73, ↓b_s_73, ↓b_l_73, ↓r_bad A' B f n w1, neg_l g0]
  by_cases q : a < 4
  · obtain ⟨v, e, g⟩ := x_fw B f n hs hr q
    refine step_same hI0 v ⟨A, ?_, esame_r A⟩ (fun A' w1 w2 hA => ?_)
    · simp (disch := omega) only [FX11_word, UX11_word_24, FX0_isLaw, ↓qb_as, ↓qb_it, ↓qi_ap, ↓reduceIte, ↓qb_qr, ↓qr_ap, ↓qb_gd, ↓gd_ap, ↓qb_so, ↓in_ok, eu_ap, up_ap, er_ap, eB_ap, uL_ap, ltT, ltF, leT, leF, eqT, eqF, nltT, nltF, nleT, nleF, neqT, neqF, clN, nI_add, pk_mul, pk_sub, divN, remN, lLT, lLF, toL, eq_self, and_self, or_self, or_false, false_or, or_true, true_or, and_true, true_and, and_false, false_and, not_true_eq_false, not_false_eq_true, if_true, if_false, ite_true, ite_false, Nat.reduceAdd, Nat.reduceMul, Nat.reduceSub, Nat.reduceDiv, Nat.reduceMod, Nat.reducePow, Nat.reduceEqDiff, Nat.reduceLT, li_0, li_1, li_2, li_3, li_4, li_5, li_6, li_7, li_8, li_9, li_10, li_11, li_12, li_13, li_15, li_16, li_20, li_25, li_26, li_27, li_29, li_30, li_31, li_32, li_43, li_46, li_48, li_49, li_57, li_59, li_60, li_63, li_89, li_93, li_97, li_99, li_100, li_108, li_110, li_120, li_122, li_125, li_129, li_133, li_200, li_253, li_1000, lo_0, lo_1, lo_10, lo_109103333, lo_12, lo_12343, lo_13, lo_17382886, lo_2, lo_20, lo_20194900, lo_25, lo_255, lo_27, lo_3, lo_31, lo_32, lo_4, lo_4153, lo_5, lo_537076, lo_6, lo_7, lo_8, lo_821, lo_9, lo_97, lo_99, ↓b_cl_0, ↓b_g_0_0, ↓b_g_0_1, ↓b_g_0_2, ↓b_g_0_3, ↓b_g_0_4, ↓b_g_0_5, ↓b_p_0_5, ↓b_g_0_6, ↓b_p_0_6, ↓b_g_0_7, ↓b_p_0_7, ↓b_g_0_8, ↓b_p_0_8, ↓b_g_0_9, ↓b_p_0_9, ↓b_cl_1, ↓b_g_1_0, ↓b_g_1_1, ↓b_g_1_2, ↓b_g_1_3, ↓b_g_1_4, ↓b_p_1_4, ↓b_g_1_5, ↓b_p_1_5, ↓b_g_1_6, ↓b_g_1_7, ↓b_g_1_8, ↓b_p_1_8, ↓b_g_1_9, ↓b_g_1_10, ↓b_q_2, ↓b_l_2, ↓b_cl_3, ↓b_cl_4, ↓b_cl_5, ↓b_cl_6, ↓b_cl_7, ↓b_cl_8, ↓b_a_9, ↓b_s_9, ↓b_l_9, ↓b_a_10, ↓b_s_10, ↓b_l_10, ↓b_a_11, ↓b_s_11, ↓b_l_11, ↓b_a_12, ↓b_s_12, ↓b_l_12, ↓b_a_13, ↓b_s_13, ↓b_l_13, ↓b_cl_14, ↓b_g_14_0, ↓b_g_14_1, ↓b_p_14_1, ↓b_g_14_2, ↓b_g_14_3, ↓b_g_14_4, ↓b_g_14_5, ↓b_a_15, ↓b_s_15, ↓b_l_15, ↓b_a_16, ↓b_s_16, ↓b_l_16, ↓b_a_17, ↓b_s_17, ↓b_l_17, ↓b_a_18, ↓b_s_18, ↓b_l_18, ↓b_a_19, ↓b_s_19, ↓b_l_19, ↓b_cl_20, ↓b_g_20_0, ↓b_g_20_1, ↓b_g_20_2, ↓b_a_21, ↓b_s_21, ↓b_l_21, ↓b_a_22, ↓b_s_22, ↓b_l_22, ↓b_a_23, ↓b_s_23, ↓b_l_23, ↓qb_of e, ↓wSp_k (show S 0 3 < 1000 by omega) g]
    · have hb' : rR S (A' 62) := by rw [hA.1 62 (by unfold ekr; omega)]; exact hb
      have d3 : A' 62 3 = nI (S 0 3) := hb'.2.2.2.1
      obtain ⟨v', e', g'⟩ := y_broken B f n hs hb' (show S 0 3 ≤ 63 by omega) q (fun k hk => hs.2.2.2.2.2.2.2.2.2.2.1 k hk) (y_at B f n hs hb')
      have ev := wSp_u g' g
      subst ev
      refine ⟨A', ?_, esame_r A'⟩
      simp (disch := omega) only [FX12_word, ↓qb_as, ↓qb_it, ↓qi_ap, ↓reduceIte, ↓qb_qr, ↓qr_ap, ↓qb_gd, ↓gd_ap, ↓qb_so, ↓in_ok, eu_ap, up_ap, er_ap, eB_ap, uL_ap, ltT, ltF, leT, leF, eqT, eqF, nltT, nltF, nleT, nleF, neqT, neqF, clN, nI_add, pk_mul, pk_sub, divN, remN, lLT, lLF, toL, eq_self, and_self, or_self, or_false, false_or, or_true, true_or, and_true, true_and, and_false, false_and, not_true_eq_false, not_false_eq_true, if_true, if_false, ite_true, ite_false, Nat.reduceAdd, Nat.reduceMul, Nat.reduceSub, Nat.reduceDiv, Nat.reduceMod, Nat.reducePow, Nat.reduceEqDiff, Nat.reduceLT, li_0, li_1, li_2, li_3, li_4, li_5, li_6, li_7, li_8, li_9, li_10, li_11, li_12, li_13, li_15, li_16, li_20, li_25, li_26, li_27, li_29, li_30, li_31, li_32, li_43, li_46, li_48, li_49, li_57, li_59, li_60, li_63, li_89, li_93, li_97, li_99, li_100, li_108, li_110, li_120, li_122, li_125, li_129, li_133, li_200, li_253, li_1000, lo_0, lo_1, lo_10, lo_109103333, lo_12, lo_12343, lo_13, lo_17382886, lo_2, lo_20, lo_20194900, lo_25, lo_255, lo_27, lo_3, lo_31, lo_32, lo_4, lo_4153, lo_5, lo_537076, lo_6, lo_7, lo_8, lo_821, lo_9, lo_97, lo_99, ↓b_cl_61, ↓b_g_61_0, ↓b_g_61_1, ↓b_g_61_2, ↓b_g_61_3, ↓b_g_61_4, ↓b_g_61_5, ↓b_p_61_5, ↓b_g_61_6, ↓b_p_61_6, ↓b_g_61_7, ↓b_p_61_7, ↓b_g_61_8, ↓b_g_61_9, ↓b_g_61_10, ↓b_g_61_11, ↓b_g_61_12, ↓b_g_61_13, ↓b_g_61_14, ↓b_p_61_14, ↓b_g_61_15, ↓b_p_61_15, ↓b_g_61_16, ↓b_p_61_16, ↓b_g_61_17, ↓b_p_61_17, ↓b_g_61_18, ↓b_p_61_18, ↓b_g_61_19, ↓b_p_61_19, ↓b_g_61_20, ↓b_p_61_20, ↓b_g_61_21, ↓b_g_61_22, ↓b_p_61_22, ↓b_a_62, ↓b_s_62, ↓b_l_62, ↓b_a_63, ↓b_s_63, ↓b_l_63, ↓b_a_64, ↓b_s_64, ↓b_a_65, ↓b_s_65, ↓b_l_65, ↓b_a_66, ↓b_s_66, ↓b_l_66, ↓b_a_67, ↓b_s_67, ↓b_l_67, ↓b_a_68, ↓b_s_68, ↓b_l_68, ↓b_a_69, ↓b_s_69, ↓b_l_69, ↓b_a_70, ↓b_s_70, ↓b_l_70, ↓b_a_71, ↓b_s_71, ↓b_l_71, ↓b_a_72, ↓b_s_72, ↓b_l_72, ↓b_a_73, ↓b_s_73, ↓b_l_73, d3, ↓qb_of e']
  · refine step_bad hI0 0 (by decide) (-nI 2) ?_ (fun A' w1 w2 w3 => ?_)
    · simp (disch := omega) only [FX11_word, UX11_word_24, FX0_isLaw, ↓qb_as, ↓qb_it, ↓qi_ap, ↓reduceIte, ↓qb_qr, ↓qr_ap, ↓qb_gd, ↓gd_ap, ↓qb_so, ↓in_ok, eu_ap, up_ap, er_ap, eB_ap, uL_ap, ltT, ltF, leT, leF, eqT, eqF, nltT, nltF, nleT, nleF, neqT, neqF, clN, nI_add, pk_mul, pk_sub, divN, remN, lLT, lLF, toL, eq_self, and_self, or_self, or_false, false_or, or_true, true_or, and_true, true_and, and_false, false_and, not_true_eq_false, not_false_eq_true, if_true, if_false, ite_true, ite_false, Nat.reduceAdd, Nat.reduceMul, Nat.reduceSub, Nat.reduceDiv, Nat.reduceMod, Nat.reducePow, Nat.reduceEqDiff, Nat.reduceLT, li_0, li_1, li_2, li_3, li_4, li_5, li_6, li_7, li_8, li_9, li_10, li_11, li_12, li_13, li_15, li_16, li_20, li_25, li_26, li_27, li_29, li_30, li_31, li_32, li_43, li_46, li_48, li_49, li_57, li_59, li_60, li_63, li_89, li_93, li_97, li_99, li_100, li_108, li_110, li_120, li_122, li_125, li_129, li_133, li_200, li_253, li_1000, lo_0, lo_1, lo_10, lo_109103333, lo_12, lo_12343, lo_13, lo_17382886, lo_2, lo_20, lo_20194900, lo_25, lo_255, lo_27, lo_3, lo_31, lo_32, lo_4, lo_4153, lo_5, lo_537076, lo_6, lo_7, lo_8, lo_821, lo_9, lo_97, lo_99, ↓b_cl_0, ↓b_g_0_0, ↓b_g_0_1, ↓b_g_0_2, ↓b_g_0_3, ↓b_g_0_4, ↓b_g_0_5, ↓b_p_0_5, ↓b_g_0_6, ↓b_p_0_6, ↓b_g_0_7, ↓b_p_0_7, ↓b_g_0_8, ↓b_p_0_8, ↓b_g_0_9, ↓b_p_0_9, ↓b_cl_1, ↓b_g_1_0, ↓b_g_1_1, ↓b_g_1_2, ↓b_g_1_3, ↓b_g_1_4, ↓b_p_1_4, ↓b_g_1_5, ↓b_p_1_5, ↓b_g_1_6, ↓b_g_1_7, ↓b_g_1_8, ↓b_p_1_8, ↓b_g_1_9, ↓b_g_1_10, ↓b_q_2, ↓b_l_2, ↓b_cl_3, ↓b_cl_4, ↓b_cl_5, ↓b_cl_6, ↓b_cl_7, ↓b_cl_8, ↓b_a_9, ↓b_s_9, ↓b_l_9, ↓b_a_10, ↓b_s_10, ↓b_l_10, ↓b_a_11, ↓b_s_11, ↓b_l_11, ↓b_a_12, ↓b_s_12, ↓b_l_12, ↓b_a_13, ↓b_s_13, ↓b_l_13, ↓b_cl_14, ↓b_g_14_0, ↓b_g_14_1, ↓b_p_14_1, ↓b_g_14_2, ↓b_g_14_3, ↓b_g_14_4, ↓b_g_14_5, ↓b_a_15, ↓b_s_15, ↓b_l_15, ↓b_a_16, ↓b_s_16, ↓b_l_16, ↓b_a_17, ↓b_s_17, ↓b_l_17, ↓b_a_18, ↓b_s_18, ↓b_l_18, ↓b_a_19, ↓b_s_19, ↓b_l_19, ↓b_cl_20, ↓b_g_20_0, ↓b_g_20_1, ↓b_g_20_2, ↓b_a_21, ↓b_s_21, ↓b_l_21, ↓b_a_22, ↓b_s_22, ↓b_l_22, ↓b_a_23, ↓b_s_23, ↓b_l_23, ↓c_bad]
    · simp (disch := omega) only [FX12_word, ↓qb_as, ↓qb_it, ↓qi_ap, ↓reduceIte, ↓qb_qr, ↓qr_ap, ↓qb_gd, ↓gd_ap, ↓qb_so, ↓in_ok, eu_ap, up_ap, er_ap, eB_ap, uL_ap, ltT, ltF, leT, leF, eqT, eqF, nltT, nltF, nleT, nleF, neqT, neqF, clN, nI_add, pk_mul, pk_sub, divN, remN, lLT, lLF, toL, eq_self, and_self, or_self, or_false, false_or, or_true, true_or, and_true, true_and, and_false, false_and, not_true_eq_false, not_false_eq_true, if_true, if_false, ite_true, ite_false, Nat.reduceAdd, Nat.reduceMul, Nat.reduceSub, Nat.reduceDiv, Nat.reduceMod, Nat.reducePow, Nat.reduceEqDiff, Nat.reduceLT, li_0, li_1, li_2, li_3, li_4, li_5, li_6, li_7, li_8, li_9, li_10, li_11, li_12, li_13, li_15, li_16, li_20, li_25, li_26, li_27, li_29, li_30, li_31, li_32, li_43, li_46, li_48, li_49, li_57, li_59, li_60, li_63, li_89, li_93, li_97, li_99, li_100, li_108, li_110, li_120, li_122, li_125, li_129, li_133, li_200, li_253, li_1000, lo_0, lo_1, lo_10, lo_109103333, lo_12, lo_12343, lo_13, lo_17382886, lo_2, lo_20, lo_20194900, lo_25, lo_255, lo_27, lo_3, lo_31, lo_32, lo_4, lo_4153, lo_5, lo_537076, lo_6, lo_7, lo_8, lo_821, lo_9, lo_97, lo_99, ↓b_cl_61, ↓b_g_61_0, ↓b_g_61_1, ↓b_g_61_2, ↓b_g_61_3, ↓b_g_61_4, ↓b_g_61_5, ↓b_p_61_5, ↓b_g_61_6, ↓b_p_61_6, ↓b_g_61_7, ↓b_p_61_7, ↓b_g_61_8, ↓b_g_61_9, ↓b_g_61_10, ↓b_g_61_11, ↓b_g_61_12, ↓b_g_61_13, ↓b_g_61_14, ↓b_p_61_14, ↓b_g_61_15, ↓b_p_61_15, ↓b_g_61_16, ↓b_p_61_16, ↓b_g_61_17, ↓b_p_61_17, ↓b_g_61_18, ↓b_p_61_18, ↓b_g_61_19, ↓b_p_61_19, ↓b_g_61_20, ↓b_p_61_20, ↓b_g_61_21, ↓b_g_61_22, ↓b_p_61_22, ↓b_a_62, ↓b_s_62, ↓b_l_62, ↓b_a_63, ↓b_s_63, ↓b_l_63, ↓b_a_64, ↓b_s_64, ↓b_a_65, ↓b_s_65, ↓b_l_65, ↓b_a_66, ↓b_s_66, ↓b_l_66, ↓b_a_67, ↓b_s_67, ↓b_l_67, ↓b_a_68, ↓b_s_68, ↓b_l_68, ↓b_a_69, ↓b_s_69, ↓b_l_69, ↓b_a_70, ↓b_s_70, ↓b_l_70, ↓b_a_71, ↓b_s_71, ↓b_l_71, ↓b_a_72, ↓b_s_72, ↓b_l_72, ↓b_a_73, ↓b_s_73, ↓b_l_73, ↓r_bad A' B f n w1]
theorem sil_u {S : eS} {sg : Nat → Nat} {m V V' : Nat} (h : ∀ l, V.testBit l = true ↔ (l < 4 ∧ silP S sg m l)) (h' : ∀ l, V'.testBit l = true ↔ (l < 4 ∧ silP S sg m l)) : V = V' := by
  apply Nat.eq_of_testBit_eq
  intro l
  rw [Bool.eq_iff_iff, h l, h' l]
set_option maxRecDepth 100000 in
set_option maxHeartbeats 4000000 in
theorem k_silent (t : Nat) (ht : t < 65) (h : qH) (hI : eInv t h) : eStep eInv (FX11_silent 0) (FX12_silent 61) t h := by
  obtain ⟨S, A, B, f, n, rfl, hI⟩ := hI
  have hI0 := hI
  obtain ⟨hs, hr, hb, hi, ho⟩ := hI
  have z3 := hs.2.2.2.1
  obtain ⟨V, e, g1, g2⟩ := x_unb B f n hs hr
  refine step_same hI0 (nI V) ⟨A, ?_, esame_r A⟩ (fun A' w1 w2 hA => ?_)
  · simp (disch := omega) only [FX11_silent, ↓qb_as, ↓qb_it, ↓qi_ap, ↓reduceIte, ↓qb_qr, ↓qr_ap, ↓qb_gd, ↓gd_ap, ↓qb_so, ↓in_ok, eu_ap, up_ap, er_ap, eB_ap, uL_ap, ltT, ltF, leT, leF, eqT, eqF, nltT, nltF, nleT, nleF, neqT, neqF, clN, nI_add, pk_mul, pk_sub, divN, remN, lLT, lLF, toL, eq_self, and_self, or_self, or_false, false_or, or_true, true_or, and_true, true_and, and_false, false_and, not_true_eq_false, not_false_eq_true, if_true, if_false, ite_true, ite_false, Nat.reduceAdd, Nat.reduceMul, Nat.reduceSub, Nat.reduceDiv, Nat.reduceMod, Nat.reducePow, Nat.reduceEqDiff, Nat.reduceLT, li_0, li_1, li_2, li_3, li_4, li_5, li_6, li_7, li_8, li_9, li_10, li_11, li_12, li_13, li_15, li_16, li_20, li_25, li_26, li_27, li_29, li_30, li_31, li_32, li_43, li_46, li_48, li_49, li_57, li_59, li_60, li_63, li_89, li_93, li_97, li_99, li_100, li_108, li_110, li_120, li_122, li_125, li_129, li_133, li_200, li_253, li_1000, lo_0, lo_1, lo_10, lo_109103333, lo_12, lo_12343, lo_13, lo_17382886, lo_2, lo_20, lo_20194900, lo_25, lo_255, lo_27, lo_3, lo_31, lo_32, lo_4, lo_4153, lo_5, lo_537076, lo_6, lo_7, lo_8, lo_821, lo_9, lo_97, lo_99, ↓b_cl_0, ↓b_g_0_0, ↓b_g_0_1, ↓b_g_0_2, ↓b_g_0_3, ↓b_g_0_4, ↓b_g_0_5, ↓b_p_0_5, ↓b_g_0_6, ↓b_p_0_6, ↓b_g_0_7, ↓b_p_0_7, ↓b_g_0_8, ↓b_p_0_8, ↓b_g_0_9, ↓b_p_0_9, ↓b_cl_1, ↓b_g_1_0, ↓b_g_1_1, ↓b_g_1_2, ↓b_g_1_3, ↓b_g_1_4, ↓b_p_1_4, ↓b_g_1_5, ↓b_p_1_5, ↓b_g_1_6, ↓b_g_1_7, ↓b_g_1_8, ↓b_p_1_8, ↓b_g_1_9, ↓b_g_1_10, ↓b_q_2, ↓b_l_2, ↓b_cl_3, ↓b_cl_4, ↓b_cl_5, ↓b_cl_6, ↓b_cl_7, ↓b_cl_8, ↓b_a_9, ↓b_s_9, ↓b_l_9, ↓b_a_10, ↓b_s_10, ↓b_l_10, ↓b_a_11, ↓b_s_11, ↓b_l_11, ↓b_a_12, ↓b_s_12, ↓b_l_12, ↓b_a_13, ↓b_s_13, ↓b_l_13, ↓b_cl_14, ↓b_g_14_0, ↓b_g_14_1, ↓b_p_14_1, ↓b_g_14_2, ↓b_g_14_3, ↓b_g_14_4, ↓b_g_14_5, ↓b_a_15, ↓b_s_15, ↓b_l_15, ↓b_a_16, ↓b_s_16, ↓b_l_16, ↓b_a_17, ↓b_s_17, ↓b_l_17, ↓b_a_18, ↓b_s_18, ↓b_l_18, ↓b_a_19, ↓b_s_19, ↓b_l_19, ↓b_cl_20, ↓b_g_20_0, ↓b_g_20_1, ↓b_g_20_2, ↓b_a_21, ↓b_s_21, ↓b_l_21, ↓b_a_22, ↓b_s_22, ↓b_l_22, ↓b_a_23, ↓b_s_23, ↓b_l_23, ↓qb_of e]
  · have hb' : rR S (A' 62) := by rw [hA.1 62 (by unfold ekr; omega)]; exact hb
    have d3 : A' 62 3 = nI (S 0 3) := hb'.2.2.2.1
    obtain ⟨V', e', g1', g2'⟩ := y_sil B f n hs hb' (show S 0 3 ≤ 63 by omega) (fun k hk => hs.2.2.2.2.2.2.2.2.2.2.1 k hk) (y_at B f n hs hb')
    have ev := sil_u g2' g2
    subst ev
    refine ⟨A', ?_, esame_r A'⟩
    simp (disch := omega) only [FX12_silent, ↓qb_as, ↓qb_it, ↓qi_ap, ↓reduceIte, ↓qb_qr, ↓qr_ap, ↓qb_gd, ↓gd_ap, ↓qb_so, ↓in_ok, eu_ap, up_ap, er_ap, eB_ap, uL_ap, ltT, ltF, leT, leF, eqT, eqF, nltT, nltF, nleT, nleF, neqT, neqF, clN, nI_add, pk_mul, pk_sub, divN, remN, lLT, lLF, toL, eq_self, and_self, or_self, or_false, false_or, or_true, true_or, and_true, true_and, and_false, false_and, not_true_eq_false, not_false_eq_true, if_true, if_false, ite_true, ite_false, Nat.reduceAdd, Nat.reduceMul, Nat.reduceSub, Nat.reduceDiv, Nat.reduceMod, Nat.reducePow, Nat.reduceEqDiff, Nat.reduceLT, li_0, li_1, li_2, li_3, li_4, li_5, li_6, li_7, li_8, li_9, li_10, li_11, li_12, li_13, li_15, li_16, li_20, li_25, li_26, li_27, li_29, li_30, li_31, li_32, li_43, li_46, li_48, li_49, li_57, li_59, li_60, li_63, li_89, li_93, li_97, li_99, li_100, li_108, li_110, li_120, li_122, li_125, li_129, li_133, li_200, li_253, li_1000, lo_0, lo_1, lo_10, lo_109103333, lo_12, lo_12343, lo_13, lo_17382886, lo_2, lo_20, lo_20194900, lo_25, lo_255, lo_27, lo_3, lo_31, lo_32, lo_4, lo_4153, lo_5, lo_537076, lo_6, lo_7, lo_8, lo_821, lo_9, lo_97, lo_99, ↓b_cl_61, ↓b_g_61_0, ↓b_g_61_1, ↓b_g_61_2, ↓b_g_61_3, ↓b_g_61_4, ↓b_g_61_5, ↓b_p_61_5, ↓b_g_61_6, ↓b_p_61_6, ↓b_g_61_7, ↓b_p_61_7, ↓b_g_61_8, ↓b_g_61_9, ↓b_g_61_10, ↓b_g_61_11, ↓b_g_61_12, ↓b_g_61_13, ↓b_g_61_14, ↓b_p_61_14, ↓b_g_61_15, ↓b_p_61_15, ↓b_g_61_16, ↓b_p_61_16, ↓b_g_61_17, ↓b_p_61_17, ↓b_g_61_18, ↓b_p_61_18, ↓b_g_61_19, ↓b_p_61_19, ↓b_g_61_20, ↓b_p_61_20, ↓b_g_61_21, ↓b_g_61_22, ↓b_p_61_22, ↓b_a_62, ↓b_s_62, ↓b_l_62, ↓b_a_63, ↓b_s_63, ↓b_l_63, ↓b_a_64, ↓b_s_64, ↓b_a_65, ↓b_s_65, ↓b_l_65, ↓b_a_66, ↓b_s_66, ↓b_l_66, ↓b_a_67, ↓b_s_67, ↓b_l_67, ↓b_a_68, ↓b_s_68, ↓b_l_68, ↓b_a_69, ↓b_s_69, ↓b_l_69, ↓b_a_70, ↓b_s_70, ↓b_l_70, ↓b_a_71, ↓b_s_71, ↓b_l_71, ↓b_a_72, ↓b_s_72, ↓b_l_72, ↓b_a_73, ↓b_s_73, ↓b_l_73, d3, ↓qb_of e']

/-! a trial: the pure game, the class's table, the reference's -/
def pc (x : Nat) : Nat := x % 2 + x / 2 % 2 + x / 4 % 2 + x / 8 % 2
theorem pc_le (x : Nat) : pc x ≤ 4 := by unfold pc; omega
theorem bcN (h : qH) : ∀ x, x < 16 → FJ6_bitCount_0f7a4 (nI x) h = some (nI (pc x), h) := by
  intro x hx
  have e : ((FJ6_bitCount_0f7a4 (nI x) []).map Prod.fst) = some (nI (pc x)) := by
    revert x; decide +kernel
  exact congrArg (fun v => some (v, h)) (Option.some.inj e)
theorem or_ad : ∀ c, c < 16 → ∀ k, k < 4 → c.testBit k = false → c ||| 2 ^ k = c + 2 ^ k ∧ c + 2 ^ k < 16 ∧ pc (c + 2 ^ k) = pc c + 1 := by decide +kernel
theorem or_sm : ∀ c, c < 16 → ∀ k, k < 4 → c.testBit k = true → c ||| 2 ^ k = c := by decide +kernel
theorem subLt {a b l : Nat} (ha : a < 1000000) (hb : b < 1000000) (hl : l < 1000000) : (nI a - nI b < nI l) = (a < l + b) := by
  have h1 : (nI a - nI b).toInt = (a : Int) - b := pk_sub_toInt (by omega) (by omega)
  have h2 : (nI l).toInt = (l : Int) := nI_toInt (by omega)
  rw [Int32.lt_iff_toInt_lt, h1, h2]
  exact propext (by omega)
theorem subEq {a b l : Nat} (ha : a < 1000000) (hb : b < 1000000) (hl : l < 1000000) : (nI a - nI b = nI l) = (a = l + b) := by
  have h1 : (nI a - nI b).toInt = (a : Int) - b := pk_sub_toInt (by omega) (by omega)
  have h2 : (nI l).toInt = (l : Int) := nI_toInt (by omega)
  refine propext ⟨fun e => ?_, fun e => ?_⟩
  · rw [e, h2] at h1; omega
  · rw [e, pk_sub (by omega), Nat.add_sub_cancel]
/-- the weight of those shown -/
def wts (w : Nat → Nat) (x : Nat) : Nat → Nat
  | 0 => 0
  | k + 1 => wts w x k + x / 2 ^ k % 2 * w k
theorem wts_le {w : Nat → Nat} {x sz : Nat} (hw : ∀ k, k < sz → w k ≤ 9) : ∀ k, k ≤ sz → wts w x k ≤ 9 * k := by
  intro k
  induction k with
  | zero => intro _; exact Nat.le_refl _
  | succ k ih =>
    intro hk
    have h1 := ih (by omega)
    have h2 := hw k (by omega)
    have h3 : x / 2 ^ k % 2 * w k ≤ 1 * 9 := Nat.mul_le_mul (by omega) h2
    show wts w x k + x / 2 ^ k % 2 * w k ≤ _
    omega
set_option maxRecDepth 100000 in
set_option maxHeartbeats 4000000 in
theorem x_wt {A : eA} (B : eB) (f : Nat → Option Nat) (n : Nat) {s sz x : Nat} {w : Nat → Nat} (hs : s < 2) (hz : sz ≤ 4) (hx : x < 16) (c1 : A 22 s = nI sz) (c2 : ∀ k, k < sz → A 21 (s * 4 + k) = nI (w k)) (hw : ∀ k, k < sz → w k ≤ 9) : ∀ (d k N : Nat), k + d = sz → d < N → WX8_weight_5 N 20 (nI s) (nI x) (nI (wts w x k)) (nI k) (enc A B f n) = some (nI (wts w x sz), enc A B f n) := by
  intro d
  induction d with
  | zero =>
    intro k N hk hN
    obtain ⟨N, rfl⟩ : ∃ M, N = M + 1 := ⟨N - 1, by omega⟩
    have e : k = sz := by omega
    subst e
    show UX8_weight_5 (WX8_weight_5 N) 20 (nI s) (nI x) _ (nI k) (enc A B f n) = _
    simp (disch := omega) only [UX8_weight_5, ↓qb_as, ↓qb_it, ↓qi_ap, ↓reduceIte, ↓qb_qr, ↓qr_ap, ↓qb_gd, ↓gd_ap, ↓qb_so, ↓in_ok, eu_ap, up_ap, er_ap, eB_ap, uL_ap, ltT, ltF, leT, leF, eqT, eqF, nltT, nltF, nleT, nleF, neqT, neqF, clN, nI_add, pk_mul, pk_sub, divN, remN, lLT, lLF, toL, eq_self, and_self, or_self, or_false, false_or, or_true, true_or, and_true, true_and, and_false, false_and, not_true_eq_false, not_false_eq_true, if_true, if_false, ite_true, ite_false, Nat.reduceAdd, Nat.reduceMul, Nat.reduceSub, Nat.reduceDiv, Nat.reduceMod, Nat.reducePow, Nat.reduceEqDiff, Nat.reduceLT, li_0, li_1, li_2, li_3, li_4, li_5, li_6, li_7, li_8, li_9, li_10, li_11, li_12, li_13, li_15, li_16, li_20, li_25, li_26, li_27, li_29, li_30, li_31, li_32, li_43, li_46, li_48, li_49, li_57, li_59, li_60, li_63, li_89, li_93, li_97, li_99, li_100, li_108, li_110, li_120, li_122, li_125, li_129, li_133, li_200, li_253, li_1000, lo_0, lo_1, lo_10, lo_109103333, lo_12, lo_12343, lo_13, lo_17382886, lo_2, lo_20, lo_20194900, lo_25, lo_255, lo_27, lo_3, lo_31, lo_32, lo_4, lo_4153, lo_5, lo_537076, lo_6, lo_7, lo_8, lo_821, lo_9, lo_97, lo_99, ↓b_cl_1, ↓b_g_1_0, ↓b_g_1_1, ↓b_g_1_2, ↓b_g_1_3, ↓b_g_1_4, ↓b_p_1_4, ↓b_g_1_5, ↓b_p_1_5, ↓b_g_1_6, ↓b_g_1_7, ↓b_g_1_8, ↓b_p_1_8, ↓b_g_1_9, ↓b_g_1_10, ↓b_q_2, ↓b_l_2, ↓b_cl_3, ↓b_cl_4, ↓b_cl_5, ↓b_cl_6, ↓b_cl_7, ↓b_cl_8, ↓b_a_9, ↓b_s_9, ↓b_l_9, ↓b_a_10, ↓b_s_10, ↓b_l_10, ↓b_a_11, ↓b_s_11, ↓b_l_11, ↓b_a_12, ↓b_s_12, ↓b_l_12, ↓b_a_13, ↓b_s_13, ↓b_l_13, ↓b_cl_14, ↓b_g_14_0, ↓b_g_14_1, ↓b_p_14_1, ↓b_g_14_2, ↓b_g_14_3, ↓b_g_14_4, ↓b_g_14_5, ↓b_a_15, ↓b_s_15, ↓b_l_15, ↓b_a_16, ↓b_s_16, ↓b_l_16, ↓b_a_17, ↓b_s_17, ↓b_l_17, ↓b_a_18, ↓b_s_18, ↓b_l_18, ↓b_a_19, ↓b_s_19, ↓b_l_19, ↓b_cl_20, ↓b_g_20_0, ↓b_g_20_1, ↓b_g_20_2, ↓b_a_21, ↓b_s_21, ↓b_l_21, ↓b_a_22, ↓b_s_22, ↓b_l_22, ↓b_a_23, ↓b_s_23, ↓b_l_23, c1]
  | succ d ih =>
    intro k N hk hN
    obtain ⟨N, rfl⟩ : ∃ M, N = M + 1 := ⟨N - 1, by omega⟩
    have h := ih (k + 1) N (by omega) (by omega)
    have c2k := c2 k (by omega)
    have hl := wts_le (x := x) hw k (by omega)
    have hwk := hw k (by omega)
    show UX8_weight_5 (WX8_weight_5 N) 20 (nI s) (nI x) _ (nI k) (enc A B f n) = _
    have hb := tb_d x k
    have e1 : wts w x (k + 1) = wts w x k + x / 2 ^ k % 2 * w k := rfl
    rw [e1] at h
    by_cases q : x / 2 ^ k % 2 = 1
    · rw [q, decide_eq_true rfl] at hb
      rw [q, Nat.one_mul] at h
      simp (disch := omega) only [UX8_weight_5, UX8_weight_41, ↓qb_as, ↓qb_it, ↓qi_ap, ↓reduceIte, ↓qb_qr, ↓qr_ap, ↓qb_gd, ↓gd_ap, ↓qb_so, ↓in_ok, eu_ap, up_ap, er_ap, eB_ap, uL_ap, ltT, ltF, leT, leF, eqT, eqF, nltT, nltF, nleT, nleF, neqT, neqF, clN, nI_add, pk_mul, pk_sub, divN, remN, lLT, lLF, toL, eq_self, and_self, or_self, or_false, false_or, or_true, true_or, and_true, true_and, and_false, false_and, not_true_eq_false, not_false_eq_true, if_true, if_false, ite_true, ite_false, Nat.reduceAdd, Nat.reduceMul, Nat.reduceSub, Nat.reduceDiv, Nat.reduceMod, Nat.reducePow, Nat.reduceEqDiff, Nat.reduceLT, li_0, li_1, li_2, li_3, li_4, li_5, li_6, li_7, li_8, li_9, li_10, li_11, li_12, li_13, li_15, li_16, li_20, li_25, li_26, li_27, li_29, li_30, li_31, li_32, li_43, li_46, li_48, li_49, li_57, li_59, li_60, li_63, li_89, li_93, li_97, li_99, li_100, li_108, li_110, li_120, li_122, li_125, li_129, li_133, li_200, li_253, li_1000, lo_0, lo_1, lo_10, lo_109103333, lo_12, lo_12343, lo_13, lo_17382886, lo_2, lo_20, lo_20194900, lo_25, lo_255, lo_27, lo_3, lo_31, lo_32, lo_4, lo_4153, lo_5, lo_537076, lo_6, lo_7, lo_8, lo_821, lo_9, lo_97, lo_99, ↓b_cl_1, ↓b_g_1_0, ↓b_g_1_1, ↓b_g_1_2, ↓b_g_1_3, ↓b_g_1_4, ↓b_p_1_4, ↓b_g_1_5, ↓b_p_1_5, ↓b_g_1_6, ↓b_g_1_7, ↓b_g_1_8, ↓b_p_1_8, ↓b_g_1_9, ↓b_g_1_10, ↓b_q_2, ↓b_l_2, ↓b_cl_3, ↓b_cl_4, ↓b_cl_5, ↓b_cl_6, ↓b_cl_7, ↓b_cl_8, ↓b_a_9, ↓b_s_9, ↓b_l_9, ↓b_a_10, ↓b_s_10, ↓b_l_10, ↓b_a_11, ↓b_s_11, ↓b_l_11, ↓b_a_12, ↓b_s_12, ↓b_l_12, ↓b_a_13, ↓b_s_13, ↓b_l_13, ↓b_cl_14, ↓b_g_14_0, ↓b_g_14_1, ↓b_p_14_1, ↓b_g_14_2, ↓b_g_14_3, ↓b_g_14_4, ↓b_g_14_5, ↓b_a_15, ↓b_s_15, ↓b_l_15, ↓b_a_16, ↓b_s_16, ↓b_l_16, ↓b_a_17, ↓b_s_17, ↓b_l_17, ↓b_a_18, ↓b_s_18, ↓b_l_18, ↓b_a_19, ↓b_s_19, ↓b_l_19, ↓b_cl_20, ↓b_g_20_0, ↓b_g_20_1, ↓b_g_20_2, ↓b_a_21, ↓b_s_21, ↓b_l_21, ↓b_a_22, ↓b_s_22, ↓b_l_22, ↓b_a_23, ↓b_s_23, ↓b_l_23, c1, c2k, ↓x_isSet (show x < 2147483648 by omega) (show k < 31 by omega), hb]
      exact h
    · have q0 : x / 2 ^ k % 2 = 0 := by omega
      rw [decide_eq_false q] at hb
      rw [q0, Nat.zero_mul] at h
      simp (disch := omega) only [UX8_weight_5, UX8_weight_41, ↓qb_as, ↓qb_it, ↓qi_ap, ↓reduceIte, ↓qb_qr, ↓qr_ap, ↓qb_gd, ↓gd_ap, ↓qb_so, ↓in_ok, eu_ap, up_ap, er_ap, eB_ap, uL_ap, ltT, ltF, leT, leF, eqT, eqF, nltT, nltF, nleT, nleF, neqT, neqF, clN, nI_add, pk_mul, pk_sub, divN, remN, lLT, lLF, toL, eq_self, and_self, or_self, or_false, false_or, or_true, true_or, and_true, true_and, and_false, false_and, not_true_eq_false, not_false_eq_true, if_true, if_false, ite_true, ite_false, Nat.reduceAdd, Nat.reduceMul, Nat.reduceSub, Nat.reduceDiv, Nat.reduceMod, Nat.reducePow, Nat.reduceEqDiff, Nat.reduceLT, li_0, li_1, li_2, li_3, li_4, li_5, li_6, li_7, li_8, li_9, li_10, li_11, li_12, li_13, li_15, li_16, li_20, li_25, li_26, li_27, li_29, li_30, li_31, li_32, li_43, li_46, li_48, li_49, li_57, li_59, li_60, li_63, li_89, li_93, li_97, li_99, li_100, li_108, li_110, li_120, li_122, li_125, li_129, li_133, li_200, li_253, li_1000, lo_0, lo_1, lo_10, lo_109103333, lo_12, lo_12343, lo_13, lo_17382886, lo_2, lo_20, lo_20194900, lo_25, lo_255, lo_27, lo_3, lo_31, lo_32, lo_4, lo_4153, lo_5, lo_537076, lo_6, lo_7, lo_8, lo_821, lo_9, lo_97, lo_99, ↓b_cl_1, ↓b_g_1_0, ↓b_g_1_1, ↓b_g_1_2, ↓b_g_1_3, ↓b_g_1_4, ↓b_p_1_4, ↓b_g_1_5, ↓b_p_1_5, ↓b_g_1_6, ↓b_g_1_7, ↓b_g_1_8, ↓b_p_1_8, ↓b_g_1_9, ↓b_g_1_10, ↓b_q_2, ↓b_l_2, ↓b_cl_3, ↓b_cl_4, ↓b_cl_5, ↓b_cl_6, ↓b_cl_7, ↓b_cl_8, ↓b_a_9, ↓b_s_9, ↓b_l_9, ↓b_a_10, ↓b_s_10, ↓b_l_10, ↓b_a_11, ↓b_s_11, ↓b_l_11, ↓b_a_12, ↓b_s_12, ↓b_l_12, ↓b_a_13, ↓b_s_13, ↓b_l_13, ↓b_cl_14, ↓b_g_14_0, ↓b_g_14_1, ↓b_p_14_1, ↓b_g_14_2, ↓b_g_14_3, ↓b_g_14_4, ↓b_g_14_5, ↓b_a_15, ↓b_s_15, ↓b_l_15, ↓b_a_16, ↓b_s_16, ↓b_l_16, ↓b_a_17, ↓b_s_17, ↓b_l_17, ↓b_a_18, ↓b_s_18, ↓b_l_18, ↓b_a_19, ↓b_s_19, ↓b_l_19, ↓b_cl_20, ↓b_g_20_0, ↓b_g_20_1, ↓b_g_20_2, ↓b_a_21, ↓b_s_21, ↓b_l_21, ↓b_a_22, ↓b_s_22, ↓b_l_22, ↓b_a_23, ↓b_s_23, ↓b_l_23, c1, c2k, ↓x_isSet (show x < 2147483648 by omega) (show k < 31 by omega), hb, Bool.false_eq_true]
      exact h
theorem x_weight {A : eA} (B : eB) (f : Nat → Option Nat) (n : Nat) {s sz x : Nat} {w : Nat → Nat} (hs : s < 2) (hz : sz ≤ 4) (hx : x < 16) (c1 : A 22 s = nI sz) (c2 : ∀ k, k < sz → A 21 (s * 4 + k) = nI (w k)) (hw : ∀ k, k < sz → w k ≤ 9) : FX8_weight 20 (nI s) (nI x) (enc A B f n) = some (nI (wts w x sz), enc A B f n) := x_wt B f n hs hz hx c1 c2 hw sz 0 1000000 (by omega) (by omega)
set_option maxRecDepth 100000 in
set_option maxHeartbeats 4000000 in
theorem y_wt {A : eA} (B : eB) (f : Nat → Option Nat) (n : Nat) {s sz x : Nat} {w : Nat → Nat} (hs : s < 2) (hz : sz ≤ 4) (hx : x < 16) (c1 : A 62 (4 + s) = nI sz) (c2 : ∀ k, k < sz → A 62 (125 + 4 * s + k) = nI (w k)) (hw : ∀ k, k < sz → w k ≤ 9) : ∀ (d k N : Nat), k + d = sz → d < N → WX12_weightOf_5 N 61 (nI s) (nI x) (nI (wts w x k)) (nI k) (enc A B f n) = some (nI (wts w x sz), enc A B f n) := by
  intro d
  induction d with
  | zero =>
    intro k N hk hN
    obtain ⟨N, rfl⟩ : ∃ M, N = M + 1 := ⟨N - 1, by omega⟩
    have e : k = sz := by omega
    subst e
    show UX12_weightOf_5 (WX12_weightOf_5 N) 61 (nI s) (nI x) _ (nI k) (enc A B f n) = _
    simp (disch := omega) only [UX12_weightOf_5, ↓qb_as, ↓qb_it, ↓qi_ap, ↓reduceIte, ↓qb_qr, ↓qr_ap, ↓qb_gd, ↓gd_ap, ↓qb_so, ↓in_ok, eu_ap, up_ap, er_ap, eB_ap, uL_ap, ltT, ltF, leT, leF, eqT, eqF, nltT, nltF, nleT, nleF, neqT, neqF, clN, nI_add, pk_mul, pk_sub, divN, remN, lLT, lLF, toL, eq_self, and_self, or_self, or_false, false_or, or_true, true_or, and_true, true_and, and_false, false_and, not_true_eq_false, not_false_eq_true, if_true, if_false, ite_true, ite_false, Nat.reduceAdd, Nat.reduceMul, Nat.reduceSub, Nat.reduceDiv, Nat.reduceMod, Nat.reducePow, Nat.reduceEqDiff, Nat.reduceLT, li_0, li_1, li_2, li_3, li_4, li_5, li_6, li_7, li_8, li_9, li_10, li_11, li_12, li_13, li_15, li_16, li_20, li_25, li_26, li_27, li_29, li_30, li_31, li_32, li_43, li_46, li_48, li_49, li_57, li_59, li_60, li_63, li_89, li_93, li_97, li_99, li_100, li_108, li_110, li_120, li_122, li_125, li_129, li_133, li_200, li_253, li_1000, lo_0, lo_1, lo_10, lo_109103333, lo_12, lo_12343, lo_13, lo_17382886, lo_2, lo_20, lo_20194900, lo_25, lo_255, lo_27, lo_3, lo_31, lo_32, lo_4, lo_4153, lo_5, lo_537076, lo_6, lo_7, lo_8, lo_821, lo_9, lo_97, lo_99, ↓b_cl_61, ↓b_g_61_0, ↓b_g_61_1, ↓b_g_61_2, ↓b_g_61_3, ↓b_g_61_4, ↓b_g_61_5, ↓b_p_61_5, ↓b_g_61_6, ↓b_p_61_6, ↓b_g_61_7, ↓b_p_61_7, ↓b_g_61_8, ↓b_g_61_9, ↓b_g_61_10, ↓b_g_61_11, ↓b_g_61_12, ↓b_g_61_13, ↓b_g_61_14, ↓b_p_61_14, ↓b_g_61_15, ↓b_p_61_15, ↓b_g_61_16, ↓b_p_61_16, ↓b_g_61_17, ↓b_p_61_17, ↓b_g_61_18, ↓b_p_61_18, ↓b_g_61_19, ↓b_p_61_19, ↓b_g_61_20, ↓b_p_61_20, ↓b_g_61_21, ↓b_g_61_22, ↓b_p_61_22, ↓b_a_62, ↓b_s_62, ↓b_l_62, ↓b_a_63, ↓b_s_63, ↓b_l_63, ↓b_a_64, ↓b_s_64, ↓b_a_65, ↓b_s_65, ↓b_l_65, ↓b_a_66, ↓b_s_66, ↓b_l_66, ↓b_a_67, ↓b_s_67, ↓b_l_67, ↓b_a_68, ↓b_s_68, ↓b_l_68, ↓b_a_69, ↓b_s_69, ↓b_l_69, ↓b_a_70, ↓b_s_70, ↓b_l_70, ↓b_a_71, ↓b_s_71, ↓b_l_71, ↓b_a_72, ↓b_s_72, ↓b_l_72, ↓b_a_73, ↓b_s_73, ↓b_l_73, c1]
  | succ d ih =>
    intro k N hk hN
    obtain ⟨N, rfl⟩ : ∃ M, N = M + 1 := ⟨N - 1, by omega⟩
    have h := ih (k + 1) N (by omega) (by omega)
    have c2k := c2 k (by omega)
    have hd := Nat.div_le_self x (2 ^ k)
    show UX12_weightOf_5 (WX12_weightOf_5 N) 61 (nI s) (nI x) _ (nI k) (enc A B f n) = _
    simp (disch := omega) only [UX12_weightOf_5, ↓qb_as, ↓qb_it, ↓qi_ap, ↓reduceIte, ↓qb_qr, ↓qr_ap, ↓qb_gd, ↓gd_ap, ↓qb_so, ↓in_ok, eu_ap, up_ap, er_ap, eB_ap, uL_ap, ltT, ltF, leT, leF, eqT, eqF, nltT, nltF, nleT, nleF, neqT, neqF, clN, nI_add, pk_mul, pk_sub, divN, remN, lLT, lLF, toL, eq_self, and_self, or_self, or_false, false_or, or_true, true_or, and_true, true_and, and_false, false_and, not_true_eq_false, not_false_eq_true, if_true, if_false, ite_true, ite_false, Nat.reduceAdd, Nat.reduceMul, Nat.reduceSub, Nat.reduceDiv, Nat.reduceMod, Nat.reducePow, Nat.reduceEqDiff, Nat.reduceLT, li_0, li_1, li_2, li_3, li_4, li_5, li_6, li_7, li_8, li_9, li_10, li_11, li_12, li_13, li_15, li_16, li_20, li_25, li_26, li_27, li_29, li_30, li_31, li_32, li_43, li_46, li_48, li_49, li_57, li_59, li_60, li_63, li_89, li_93, li_97, li_99, li_100, li_108, li_110, li_120, li_122, li_125, li_129, li_133, li_200, li_253, li_1000, lo_0, lo_1, lo_10, lo_109103333, lo_12, lo_12343, lo_13, lo_17382886, lo_2, lo_20, lo_20194900, lo_25, lo_255, lo_27, lo_3, lo_31, lo_32, lo_4, lo_4153, lo_5, lo_537076, lo_6, lo_7, lo_8, lo_821, lo_9, lo_97, lo_99, ↓b_cl_61, ↓b_g_61_0, ↓b_g_61_1, ↓b_g_61_2, ↓b_g_61_3, ↓b_g_61_4, ↓b_g_61_5, ↓b_p_61_5, ↓b_g_61_6, ↓b_p_61_6, ↓b_g_61_7, ↓b_p_61_7, ↓b_g_61_8, ↓b_g_61_9, ↓b_g_61_10, ↓b_g_61_11, ↓b_g_61_12, ↓b_g_61_13, ↓b_g_61_14, ↓b_p_61_14, ↓b_g_61_15, ↓b_p_61_15, ↓b_g_61_16, ↓b_p_61_16, ↓b_g_61_17, ↓b_p_61_17, ↓b_g_61_18, ↓b_p_61_18, ↓b_g_61_19, ↓b_p_61_19, ↓b_g_61_20, ↓b_p_61_20, ↓b_g_61_21, ↓b_g_61_22, ↓b_p_61_22, ↓b_a_62, ↓b_s_62, ↓b_l_62, ↓b_a_63, ↓b_s_63, ↓b_l_63, ↓b_a_64, ↓b_s_64, ↓b_a_65, ↓b_s_65, ↓b_l_65, ↓b_a_66, ↓b_s_66, ↓b_l_66, ↓b_a_67, ↓b_s_67, ↓b_l_67, ↓b_a_68, ↓b_s_68, ↓b_l_68, ↓b_a_69, ↓b_s_69, ↓b_l_69, ↓b_a_70, ↓b_s_70, ↓b_l_70, ↓b_a_71, ↓b_s_71, ↓b_l_71, ↓b_a_72, ↓b_s_72, ↓b_l_72, ↓b_a_73, ↓b_s_73, ↓b_l_73, c1, c2k, shrN, and1N]
    exact h
theorem y_weight {A : eA} (B : eB) (f : Nat → Option Nat) (n : Nat) {s sz x : Nat} {w : Nat → Nat} (hs : s < 2) (hz : sz ≤ 4) (hx : x < 16) (c1 : A 62 (4 + s) = nI sz) (c2 : ∀ k, k < sz → A 62 (125 + 4 * s + k) = nI (w k)) (hw : ∀ k, k < sz → w k ≤ 9) : FX12_weightOf 61 (nI s) (nI x) (enc A B f n) = some (nI (wts w x sz), enc A B f n) := y_wt B f n hs hz hx c1 c2 hw sz 0 1000000 (by omega) (by omega)
/-- the best of some: the greatest (true), the least; of those that are left -/
def bst (h : Bool) (u : Nat → Bool) (g : Nat → Nat) : Nat → Option Nat
  | 0 => none
  | k + 1 => if u k = true then (match bst h u g k with
      | none => some (g k)
      | some m => if (if h = true then m < g k else g k < m) then some (g k) else some m) else bst h u g k
theorem bst_c {h : Bool} {u u' : Nat → Bool} {g g' : Nat → Nat} : ∀ k, (∀ j, j < k → u j = u' j) → (∀ j, j < k → u j = true → g j = g' j) → bst h u g k = bst h u' g' k := by
  intro k
  induction k with
  | zero => intro _ _; rfl
  | succ k ih =>
    intro h1 h2
    have e := ih (fun j hj => h1 j (by omega)) (fun j hj => h2 j (by omega))
    unfold bst
    rw [e, ← h1 k (by omega)]
    by_cases q : u k = true
    · rw [if_pos q, if_pos q, h2 k (by omega) q]
    · rw [if_neg q, if_neg q]
theorem bst_m {h : Bool} {u : Nat → Bool} {g g' : Nat → Nat} (s : Nat) : ∀ k, (∀ j, j < k → u j = true → g' j = s + g j) → bst h u g' k = (bst h u g k).map (fun m => s + m) := by
  intro k
  induction k with
  | zero => intro _; rfl
  | succ k ih =>
    intro h2
    have e := ih (fun j hj => h2 j (by omega))
    unfold bst
    rw [e]
    by_cases q : u k = true
    · rw [if_pos q, if_pos q, h2 k (by omega) q]
      cases bst h u g k with
      | none => rfl
      | some m =>
        show (if (if h = true then s + m < s + g k else s + g k < s + m) then some (s + g k) else some (s + m)) = Option.map _ (if (if h = true then m < g k else g k < m) then some (g k) else some m)
        have e2 : (if h = true then s + m < s + g k else s + g k < s + m) = (if h = true then m < g k else g k < m) := by
          cases h
          · exact propext (by show (s + g k < s + m) ↔ (g k < m); omega)
          · exact propext (by show (s + m < s + g k) ↔ (m < g k); omega)
        by_cases q2 : (if h = true then m < g k else g k < m)
        · rw [if_pos q2, if_pos (by rw [e2]; exact q2)]; rfl
        · rw [if_neg q2, if_neg (by rw [e2]; exact q2)]; rfl
    · rw [if_neg q, if_neg q]
theorem bst_b {h : Bool} {u : Nat → Bool} {g : Nat → Nat} {M : Nat} : ∀ k, (∀ j, j < k → u j = true → g j ≤ M) → (bst h u g k).getD 0 ≤ M := by
  intro k
  induction k with
  | zero => intro _; exact Nat.zero_le _
  | succ k ih =>
    intro h2
    have e := ih (fun j hj => h2 j (by omega))
    unfold bst
    by_cases q : u k = true
    · rw [if_pos q]
      have := h2 k (by omega) q
      cases e2 : bst h u g k with
      | none => exact this
      | some m =>
        rw [e2] at e
        dsimp only
        by_cases q2 : (if h = true then m < g k else g k < m)
        · rw [if_pos q2]; exact this
        · rw [if_neg q2]; exact e
    · rw [if_neg q]; exact e
section GM
variable (w0 w1 : Nat → Nat) (nc np l : Nat)
def bhG (F : Nat → Nat → Nat) (c p t : Nat) : Nat := if l + wts w1 p np ≤ wts w0 c nc then 0 else F (16 * c + p) t
def gRec (F : Nat → Nat → Nat) (c p t : Nat) : Nat := if t = 0 then (bst false (fun k => !c.testBit k) (fun k => 1 + bhG w0 w1 nc np l F (c ||| 2 ^ k) p 1) nc).getD 0 else (bst true (fun k => !p.testBit k) (fun k => 1 + bhG w0 w1 nc np l F c (p ||| 2 ^ k) 0) np).getD 0
theorem bh_le {F : Nat → Nat → Nat} {c p t M : Nat} (h : F (16 * c + p) t ≤ M) : bhG w0 w1 nc np l F c p t ≤ M := by
  unfold bhG; split
  · exact Nat.zero_le _
  · exact h
theorem gRec_c (hc : nc ≤ 4) (hp : np ≤ 4) {F F' : Nat → Nat → Nat} {c p : Nat} (h1 : c < 16) (h2 : p < 16) (h : ∀ y t, 16 * c + p < y → y < 256 → t < 2 → F y t = F' y t) (t : Nat) : gRec w0 w1 nc np l F c p t = gRec w0 w1 nc np l F' c p t := by
  unfold gRec
  split
  · congr 1
    refine bst_c nc (fun _ _ => rfl) (fun j hj hu => ?_)
    obtain ⟨a1, a2, a3⟩ := or_ad c h1 j (by omega) (by simpa using hu)
    have := Nat.two_pow_pos j
    show 1 + bhG w0 w1 nc np l F _ _ _ = 1 + bhG w0 w1 nc np l F' _ _ _
    unfold bhG
    rw [a1, h _ 1 (by omega) (by omega) (by omega)]
  · congr 1
    refine bst_c np (fun _ _ => rfl) (fun j hj hu => ?_)
    obtain ⟨a1, a2, a3⟩ := or_ad p h2 j (by omega) (by simpa using hu)
    have := Nat.two_pow_pos j
    show 1 + bhG w0 w1 nc np l F _ _ _ = 1 + bhG w0 w1 nc np l F' _ _ _
    unfold bhG
    rw [a1, h _ 0 (by omega) (by omega) (by omega)]
theorem gEx1 (hc : nc ≤ 4) (hp : np ≤ 4) : ∀ m, m ≤ 256 → ∃ F : Nat → Nat → Nat, (∀ y t, 256 ≤ y → F y t = 0) ∧ ∀ c p t, c < 16 → p < 16 → 256 ≤ 16 * c + p + m → F (16 * c + p) t = gRec w0 w1 nc np l F c p t ∧ F (16 * c + p) t ≤ 256 - (16 * c + p) := by
  intro m
  induction m with
  | zero => intro _; exact ⟨fun _ _ => 0, fun _ _ _ => rfl, fun c p t h1 h2 h3 => by omega⟩
  | succ m ih =>
    intro hm
    obtain ⟨F, h0, hF⟩ := ih (by omega)
    have e1 : (255 - m) / 16 < 16 := by omega
    have e2 : (255 - m) % 16 < 16 := by omega
    have e3 : 16 * ((255 - m) / 16) + (255 - m) % 16 = 255 - m := Nat.div_add_mod _ _
    refine ⟨fun y t => if y = 255 - m then gRec w0 w1 nc np l F ((255 - m) / 16) ((255 - m) % 16) t else F y t, fun y t hy => ?_, fun c p t h1 h2 h3 => ?_⟩
    · dsimp only; rw [if_neg (by omega)]; exact h0 y t hy
    · have eg : gRec w0 w1 nc np l (fun y t => if y = 255 - m then gRec w0 w1 nc np l F ((255 - m) / 16) ((255 - m) % 16) t else F y t) c p t = gRec w0 w1 nc np l F c p t := gRec_c w0 w1 nc np l hc hp h1 h2 (fun y t hy _ _ => if_neg (by omega)) t
      rw [eg]
      by_cases q : 16 * c + p = 255 - m
      · have ec : c = (255 - m) / 16 := by omega
        have ep : p = (255 - m) % 16 := by omega
        dsimp only
        rw [if_pos q, ← ec, ← ep]
        refine ⟨rfl, ?_⟩
        unfold gRec
        split
        · refine bst_b nc (fun j hj hu => ?_)
          obtain ⟨a1, a2, a3⟩ := or_ad c h1 j (by omega) (by simpa using hu)
          have := Nat.two_pow_pos j
          rw [a1]
          have hb := bh_le w0 w1 nc np l (hF (c + 2 ^ j) p 1 a2 h2 (by omega)).2
          omega
        · refine bst_b np (fun j hj hu => ?_)
          obtain ⟨a1, a2, a3⟩ := or_ad p h2 j (by omega) (by simpa using hu)
          have := Nat.two_pow_pos j
          rw [a1]
          have hb := bh_le w0 w1 nc np l (hF c (p + 2 ^ j) 0 h1 a2 (by omega)).2
          omega
      · dsimp only
        rw [if_neg q]
        exact hF c p t h1 h2 (by omega)
def gOK (F : Nat → Nat → Nat) : Prop := ∀ c p t, c < 16 → p < 16 → F (16 * c + p) t = gRec w0 w1 nc np l F c p t ∧ F (16 * c + p) t ≤ 256
theorem gEx (hc : nc ≤ 4) (hp : np ≤ 4) : ∃ F : Nat → Nat → Nat, gOK w0 w1 nc np l F := by
  obtain ⟨F, -, hF⟩ := gEx1 w0 w1 nc np l hc hp 256 (by omega)
  exact ⟨F, fun c p t h1 h2 => by have := hF c p t h1 h2 (by omega); exact ⟨this.1, by omega⟩⟩
end GM
def opI : Option Nat → Int32
  | none => -nI 1
  | some m => nI m

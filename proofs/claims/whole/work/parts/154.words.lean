/-! words: bits, the pure automaton, the class's -/
theorem orN (a b : Nat) : nI a ||| nI b = nI (a ||| b) := by
  apply Int32.toBitVec_inj.1
  show BitVec.ofNat 32 a ||| BitVec.ofNat 32 b = BitVec.ofNat 32 (a ||| b)
  apply BitVec.eq_of_getLsbD_eq
  intro i hi
  simp [hi]
theorem andN (a b : Nat) : nI a &&& nI b = nI (a &&& b) := by
  apply Int32.toBitVec_inj.1
  show BitVec.ofNat 32 a &&& BitVec.ofNat 32 b = BitVec.ofNat 32 (a &&& b)
  apply BitVec.eq_of_getLsbD_eq
  intro i hi
  simp [hi]
theorem eqM {a : Nat} (h : a < 2147483648) : (nI a = -nI 1) = False := eq_false (nI_nn h (by decide))
theorem tb_d (x i : Nat) : x.testBit i = decide (x / 2 ^ i % 2 = 1) := Nat.testBit_eq_decide_div_mod_eq
theorem tb_one (j : Nat) : (1 : Nat).testBit j = decide (j = 0) := by
  rw [show (1 : Nat) = 2 ^ 0 from rfl, Nat.testBit_two_pow]
  by_cases q : j = 0
  · subst q; rfl
  · rw [decide_eq_false q, decide_eq_false (fun e => q e.symm)]
theorem tb_hi {x k l : Nat} (h : x < 2 ^ k) (hl : k ≤ l) : x.testBit l = false := Nat.testBit_lt_two_pow (Nat.lt_of_lt_of_le h (Nat.pow_le_pow_right (by decide) hl))
theorem shl1 {k : Nat} (hk : k < 31) : nI 1 <<< (nI k &&& nI 31) = nI (2 ^ k) := by
  rw [shlN (by omega) (by rw [Nat.one_mul]; exact Nat.lt_trans (Nat.pow_lt_pow_right (by decide) hk) (by decide)), Nat.one_mul]
theorem x_isSet {β : Type} {R k : Nat} (hR : R < 2147483648) (hk : k < 31) (K : Int32 → qP β) (w : qH) : qb (FX11_isSet (nI R) (nI k)) K w = if R.testBit k = true then K (nI 1) w else K (nI 0) w := by
  unfold FX11_isSet
  have h1 := Nat.div_le_self R (2 ^ k)
  rw [show (31 : Int32) = nI 31 from rfl, show (1 : Int32) = nI 1 from rfl, shrN (by omega) hR, and1N (by omega), tb_d]
  by_cases q : R / 2 ^ k % 2 = 1
  · rw [q, if_pos rfl, if_pos (by decide)]; rfl
  · rw [show R / 2 ^ k % 2 = 0 by omega, if_neg (by decide), if_neg (by decide)]; rfl
def stp (lw : Nat → Nat) (sz : Nat) (p : Nat → Bool) (c l : Nat) : Bool := decide (1 ≤ l ∧ l ≤ sz) && ((decide (lw (l - 1) = c) || decide (lw (l - 1) = 26) || decide (lw (l - 1) = 27)) && ((decide (l = 1) || p (l - 1)) || (decide (lw (l - 1) = 27) && p l)))
def rch (lw : Nat → Nat) (sz : Nat) (sg : Nat → Nat) : Nat → Nat → Bool
  | 0 => fun _ => false
  | k + 1 => stp lw sz (rch lw sz sg k) (sg k)
theorem stp_c {lw : Nat → Nat} {sz c : Nat} {p q : Nat → Bool} (h : ∀ l, p l = q l) (l : Nat) : stp lw sz p c l = stp lw sz q c l := by
  unfold stp; rw [h l, h (l - 1)]
/-- a law of S, as a pattern -/
def lwS (S : eS) (i j : Nat) : Nat := S 7 (8 * i + j)
set_option maxRecDepth 100000 in
set_option maxHeartbeats 8000000 in
theorem w_step {t : Nat} {S : eS} {A : eA} (B : eB) (f : Nat → Option Nat) (n : Nat) (hs : sok t S) (hr : rC S A 1) {i R c : Nat} (hi : i < 4) (hR : R < 512) (hc : c < 26) : ∀ (d j N V : Nat), j + d = S 8 i → d < N → V < 2 ^ (j + 1) → (∀ l, V.testBit l = (decide (l ≤ j) && stp (lwS S i) (S 8 i) R.testBit c l)) → ∃ V', WX0_step_6 N 14 (nI i) (nI R) (nI c) (nI V) (nI j) (enc A B f n) = some (nI V', enc A B f n) ∧ V' < 512 ∧ ∀ l, V'.testBit l = stp (lwS S i) (S 8 i) R.testBit c l := by
  obtain ⟨z0, z1, z2, z3, z4, z5, z6, z7, z8, z9, z10, z11, z12, z13⟩ := hs
  obtain ⟨c0, c1, c2, c3, c4, c5, c6, c7, c8, c9, c10, c11, c12, c13, c14, c15, c16⟩ := hr
  simp only [Nat.reduceAdd] at c3 c4 c5 c6 c7 c8 c9 c10 c11 c12 c13 c14 c15 c16
  have h17 := c13 i hi
  have hz := (z11 i hi).1
  intro d
  induction d with
  | zero =>
    intro j N V hj hN hV hb
    obtain ⟨N, rfl⟩ : ∃ M, N = M + 1 := ⟨N - 1, by omega⟩
    refine ⟨V, ?_, Nat.lt_of_lt_of_le hV (Nat.pow_le_pow_right (by decide) (show j + 1 ≤ 9 by omega)), fun l => ?_⟩
    · show UX0_step_6 (WX0_step_6 N) 14 (nI i) (nI R) (nI c) (nI V) (nI j) (enc A B f n) = _
      simp (disch := omega) only [UX0_step_6, ↓qb_as, ↓qb_it, ↓qi_ap, ↓reduceIte, ↓qb_qr, ↓qr_ap, ↓qb_gd, ↓gd_ap, ↓qb_so, ↓in_ok, eu_ap, up_ap, er_ap, eB_ap, uL_ap, ltT, ltF, leT, leF, eqT, eqF, nltT, nltF, nleT, nleF, neqT, neqF, clN, nI_add, pk_mul, pk_sub, divN, remN, lLT, lLF, toL, eq_self, and_self, or_self, or_false, false_or, or_true, true_or, and_true, true_and, and_false, false_and, not_true_eq_false, not_false_eq_true, if_true, if_false, ite_true, ite_false, Nat.reduceAdd, Nat.reduceMul, Nat.reduceSub, Nat.reduceDiv, Nat.reduceMod, Nat.reducePow, Nat.reduceEqDiff, Nat.reduceLT, li_0, li_1, li_2, li_3, li_4, li_5, li_6, li_7, li_8, li_9, li_10, li_11, li_12, li_13, li_15, li_16, li_20, li_25, li_26, li_27, li_29, li_30, li_31, li_32, li_43, li_46, li_48, li_49, li_57, li_59, li_60, li_63, li_89, li_93, li_97, li_99, li_100, li_108, li_110, li_120, li_122, li_125, li_129, li_133, li_200, li_253, li_1000, lo_0, lo_1, lo_10, lo_109103333, lo_12, lo_12343, lo_13, lo_17382886, lo_2, lo_20, lo_20194900, lo_25, lo_255, lo_27, lo_3, lo_31, lo_32, lo_4, lo_4153, lo_5, lo_537076, lo_6, lo_7, lo_8, lo_821, lo_9, lo_97, lo_99, ↓b_cl_1, ↓b_g_1_0, ↓b_g_1_1, ↓b_g_1_2, ↓b_g_1_3, ↓b_g_1_4, ↓b_p_1_4, ↓b_g_1_5, ↓b_p_1_5, ↓b_g_1_6, ↓b_g_1_7, ↓b_g_1_8, ↓b_p_1_8, ↓b_g_1_9, ↓b_g_1_10, ↓b_q_2, ↓b_l_2, ↓b_cl_3, ↓b_cl_4, ↓b_cl_5, ↓b_cl_6, ↓b_cl_7, ↓b_cl_8, ↓b_a_9, ↓b_s_9, ↓b_l_9, ↓b_a_10, ↓b_s_10, ↓b_l_10, ↓b_a_11, ↓b_s_11, ↓b_l_11, ↓b_a_12, ↓b_s_12, ↓b_l_12, ↓b_a_13, ↓b_s_13, ↓b_l_13, ↓b_cl_14, ↓b_g_14_0, ↓b_g_14_1, ↓b_p_14_1, ↓b_g_14_2, ↓b_g_14_3, ↓b_g_14_4, ↓b_g_14_5, ↓b_a_15, ↓b_s_15, ↓b_l_15, ↓b_a_16, ↓b_s_16, ↓b_l_16, ↓b_a_17, ↓b_s_17, ↓b_l_17, ↓b_a_18, ↓b_s_18, ↓b_l_18, ↓b_a_19, ↓b_s_19, ↓b_l_19, ↓b_cl_20, ↓b_g_20_0, ↓b_g_20_1, ↓b_g_20_2, ↓b_a_21, ↓b_s_21, ↓b_l_21, ↓b_a_22, ↓b_s_22, ↓b_l_22, ↓b_a_23, ↓b_s_23, ↓b_l_23, h17]
    · rw [hb l]
      by_cases q : l ≤ j
      · rw [decide_eq_true q, Bool.true_and]
      · rw [decide_eq_false q, Bool.false_and]
        unfold stp
        rw [decide_eq_false (show ¬ (1 ≤ l ∧ l ≤ S 8 i) by omega), Bool.false_and]
  | succ d ih =>
    intro j N V hj hN hV hb
    obtain ⟨N, rfl⟩ : ∃ M, N = M + 1 := ⟨N - 1, by omega⟩
    have hx := (z11 i hi).2 j (by omega)
    have h16 : A 16 (i * 8 + j) = nI (lwS S i j) := by rw [Nat.mul_comm]; exact c14 i j hi (by omega)
    have hx2 : lwS S i j < 28 := hx
    have hp : 2 ^ (j + 1) ≤ 2 ^ 8 := Nat.pow_le_pow_right (by decide) (show j + 1 ≤ 8 by omega)
    have hR1 : R ||| 1 < 512 := Nat.or_lt_two_pow (n := 9) hR (by decide)
    have hu : (R ||| 1).testBit j = (decide (j + 1 = 1) || R.testBit j) := by
      rw [Nat.testBit_or, tb_one, Bool.or_comm]
      by_cases q : j = 0
      · rw [decide_eq_true q, decide_eq_true (by omega)]
      · rw [decide_eq_false q, decide_eq_false (by omega)]
    have key : ∀ b : Bool, stp (lwS S i) (S 8 i) R.testBit c (j + 1) = b → WX0_step_6 (N + 1) 14 (nI i) (nI R) (nI c) (nI V) (nI j) (enc A B f n) = WX0_step_6 N 14 (nI i) (nI R) (nI c) (nI (if b = true then V ||| 2 ^ (j + 1) else V)) (nI (j + 1)) (enc A B f n) := by
      intro b hst
      show UX0_step_6 (WX0_step_6 N) 14 (nI i) (nI R) (nI c) (nI V) (nI j) (enc A B f n) = _
      unfold stp at hst
      rw [Nat.add_sub_cancel, decide_eq_true (show 1 ≤ j + 1 ∧ j + 1 ≤ S 8 i by omega), Bool.true_and] at hst
      rw [← hu] at hst
      have q : lwS S i j = c ∨ lwS S i j = 26 ∨ lwS S i j = 27 ∨ (lwS S i j ≠ c ∧ lwS S i j ≠ 26 ∧ lwS S i j ≠ 27) := by omega
      cases e1 : (R ||| 1).testBit j <;> cases e2 : R.testBit (j + 1) <;> rw [e1, e2] at hst <;> rcases q with q | q | q | ⟨q1, q2, q3⟩
      all_goals first
        | (rw [decide_eq_true q, decide_eq_false (show ¬ lwS S i j = 26 by omega), decide_eq_false (show ¬ lwS S i j = 27 by omega)] at hst; simp only [Bool.true_or, Bool.or_true, Bool.false_or, Bool.or_false, Bool.true_and, Bool.and_true, Bool.false_and, Bool.and_false] at hst; subst hst; simp (disch := omega) only [UX0_step_6, UX0_step_56, UX0_step_91, UX0_step_108, ↓qb_as, ↓qb_it, ↓qi_ap, ↓reduceIte, ↓qb_qr, ↓qr_ap, ↓qb_gd, ↓gd_ap, ↓qb_so, ↓in_ok, eu_ap, up_ap, er_ap, eB_ap, uL_ap, ltT, ltF, leT, leF, eqT, eqF, nltT, nltF, nleT, nleF, neqT, neqF, clN, nI_add, pk_mul, pk_sub, divN, remN, lLT, lLF, toL, eq_self, and_self, or_self, or_false, false_or, or_true, true_or, and_true, true_and, and_false, false_and, not_true_eq_false, not_false_eq_true, if_true, if_false, ite_true, ite_false, Nat.reduceAdd, Nat.reduceMul, Nat.reduceSub, Nat.reduceDiv, Nat.reduceMod, Nat.reducePow, Nat.reduceEqDiff, Nat.reduceLT, li_0, li_1, li_2, li_3, li_4, li_5, li_6, li_7, li_8, li_9, li_10, li_11, li_12, li_13, li_15, li_16, li_20, li_25, li_26, li_27, li_29, li_30, li_31, li_32, li_43, li_46, li_48, li_49, li_57, li_59, li_60, li_63, li_89, li_93, li_97, li_99, li_100, li_108, li_110, li_120, li_122, li_125, li_129, li_133, li_200, li_253, li_1000, lo_0, lo_1, lo_10, lo_109103333, lo_12, lo_12343, lo_13, lo_17382886, lo_2, lo_20, lo_20194900, lo_25, lo_255, lo_27, lo_3, lo_31, lo_32, lo_4, lo_4153, lo_5, lo_537076, lo_6, lo_7, lo_8, lo_821, lo_9, lo_97, lo_99, ↓b_cl_1, ↓b_g_1_0, ↓b_g_1_1, ↓b_g_1_2, ↓b_g_1_3, ↓b_g_1_4, ↓b_p_1_4, ↓b_g_1_5, ↓b_p_1_5, ↓b_g_1_6, ↓b_g_1_7, ↓b_g_1_8, ↓b_p_1_8, ↓b_g_1_9, ↓b_g_1_10, ↓b_q_2, ↓b_l_2, ↓b_cl_3, ↓b_cl_4, ↓b_cl_5, ↓b_cl_6, ↓b_cl_7, ↓b_cl_8, ↓b_a_9, ↓b_s_9, ↓b_l_9, ↓b_a_10, ↓b_s_10, ↓b_l_10, ↓b_a_11, ↓b_s_11, ↓b_l_11, ↓b_a_12, ↓b_s_12, ↓b_l_12, ↓b_a_13, ↓b_s_13, ↓b_l_13, ↓b_cl_14, ↓b_g_14_0, ↓b_g_14_1, ↓b_p_14_1, ↓b_g_14_2, ↓b_g_14_3, ↓b_g_14_4, ↓b_g_14_5, ↓b_a_15, ↓b_s_15, ↓b_l_15, ↓b_a_16, ↓b_s_16, ↓b_l_16, ↓b_a_17, ↓b_s_17, ↓b_l_17, ↓b_a_18, ↓b_s_18, ↓b_l_18, ↓b_a_19, ↓b_s_19, ↓b_l_19, ↓b_cl_20, ↓b_g_20_0, ↓b_g_20_1, ↓b_g_20_2, ↓b_a_21, ↓b_s_21, ↓b_l_21, ↓b_a_22, ↓b_s_22, ↓b_l_22, ↓b_a_23, ↓b_s_23, ↓b_l_23, h17, h16, orN, ↓x_isSet (show R ||| 1 < 2147483648 by omega) (show j < 31 by omega), ↓x_isSet (show R < 2147483648 by omega) (show j + 1 < 31 by omega), e1, e2, shl1, Bool.false_eq_true]; done)
        | (rw [decide_eq_false (show ¬ lwS S i j = c by omega), decide_eq_true q, decide_eq_false (show ¬ lwS S i j = 27 by omega)] at hst; simp only [Bool.true_or, Bool.or_true, Bool.false_or, Bool.or_false, Bool.true_and, Bool.and_true, Bool.false_and, Bool.and_false] at hst; subst hst; simp (disch := omega) only [UX0_step_6, UX0_step_56, UX0_step_91, UX0_step_108, ↓qb_as, ↓qb_it, ↓qi_ap, ↓reduceIte, ↓qb_qr, ↓qr_ap, ↓qb_gd, ↓gd_ap, ↓qb_so, ↓in_ok, eu_ap, up_ap, er_ap, eB_ap, uL_ap, ltT, ltF, leT, leF, eqT, eqF, nltT, nltF, nleT, nleF, neqT, neqF, clN, nI_add, pk_mul, pk_sub, divN, remN, lLT, lLF, toL, eq_self, and_self, or_self, or_false, false_or, or_true, true_or, and_true, true_and, and_false, false_and, not_true_eq_false, not_false_eq_true, if_true, if_false, ite_true, ite_false, Nat.reduceAdd, Nat.reduceMul, Nat.reduceSub, Nat.reduceDiv, Nat.reduceMod, Nat.reducePow, Nat.reduceEqDiff, Nat.reduceLT, li_0, li_1, li_2, li_3, li_4, li_5, li_6, li_7, li_8, li_9, li_10, li_11, li_12, li_13, li_15, li_16, li_20, li_25, li_26, li_27, li_29, li_30, li_31, li_32, li_43, li_46, li_48, li_49, li_57, li_59, li_60, li_63, li_89, li_93, li_97, li_99, li_100, li_108, li_110, li_120, li_122, li_125, li_129, li_133, li_200, li_253, li_1000, lo_0, lo_1, lo_10, lo_109103333, lo_12, lo_12343, lo_13, lo_17382886, lo_2, lo_20, lo_20194900, lo_25, lo_255, lo_27, lo_3, lo_31, lo_32, lo_4, lo_4153, lo_5, lo_537076, lo_6, lo_7, lo_8, lo_821, lo_9, lo_97, lo_99, ↓b_cl_1, ↓b_g_1_0, ↓b_g_1_1, ↓b_g_1_2, ↓b_g_1_3, ↓b_g_1_4, ↓b_p_1_4, ↓b_g_1_5, ↓b_p_1_5, ↓b_g_1_6, ↓b_g_1_7, ↓b_g_1_8, ↓b_p_1_8, ↓b_g_1_9, ↓b_g_1_10, ↓b_q_2, ↓b_l_2, ↓b_cl_3, ↓b_cl_4, ↓b_cl_5, ↓b_cl_6, ↓b_cl_7, ↓b_cl_8, ↓b_a_9, ↓b_s_9, ↓b_l_9, ↓b_a_10, ↓b_s_10, ↓b_l_10, ↓b_a_11, ↓b_s_11, ↓b_l_11, ↓b_a_12, ↓b_s_12, ↓b_l_12, ↓b_a_13, ↓b_s_13, ↓b_l_13, ↓b_cl_14, ↓b_g_14_0, ↓b_g_14_1, ↓b_p_14_1, ↓b_g_14_2, ↓b_g_14_3, ↓b_g_14_4, ↓b_g_14_5, ↓b_a_15, ↓b_s_15, ↓b_l_15, ↓b_a_16, ↓b_s_16, ↓b_l_16, ↓b_a_17, ↓b_s_17, ↓b_l_17, ↓b_a_18, ↓b_s_18, ↓b_l_18, ↓b_a_19, ↓b_s_19, ↓b_l_19, ↓b_cl_20, ↓b_g_20_0, ↓b_g_20_1, ↓b_g_20_2, ↓b_a_21, ↓b_s_21, ↓b_l_21, ↓b_a_22, ↓b_s_22, ↓b_l_22, ↓b_a_23, ↓b_s_23, ↓b_l_23, h17, h16, orN, ↓x_isSet (show R ||| 1 < 2147483648 by omega) (show j < 31 by omega), ↓x_isSet (show R < 2147483648 by omega) (show j + 1 < 31 by omega), e1, e2, shl1, Bool.false_eq_true]; done)
        | (rw [decide_eq_false (show ¬ lwS S i j = c by omega), decide_eq_false (show ¬ lwS S i j = 26 by omega), decide_eq_true q] at hst; simp only [Bool.true_or, Bool.or_true, Bool.false_or, Bool.or_false, Bool.true_and, Bool.and_true, Bool.false_and, Bool.and_false] at hst; subst hst; simp (disch := omega) only [UX0_step_6, UX0_step_56, UX0_step_91, UX0_step_108, ↓qb_as, ↓qb_it, ↓qi_ap, ↓reduceIte, ↓qb_qr, ↓qr_ap, ↓qb_gd, ↓gd_ap, ↓qb_so, ↓in_ok, eu_ap, up_ap, er_ap, eB_ap, uL_ap, ltT, ltF, leT, leF, eqT, eqF, nltT, nltF, nleT, nleF, neqT, neqF, clN, nI_add, pk_mul, pk_sub, divN, remN, lLT, lLF, toL, eq_self, and_self, or_self, or_false, false_or, or_true, true_or, and_true, true_and, and_false, false_and, not_true_eq_false, not_false_eq_true, if_true, if_false, ite_true, ite_false, Nat.reduceAdd, Nat.reduceMul, Nat.reduceSub, Nat.reduceDiv, Nat.reduceMod, Nat.reducePow, Nat.reduceEqDiff, Nat.reduceLT, li_0, li_1, li_2, li_3, li_4, li_5, li_6, li_7, li_8, li_9, li_10, li_11, li_12, li_13, li_15, li_16, li_20, li_25, li_26, li_27, li_29, li_30, li_31, li_32, li_43, li_46, li_48, li_49, li_57, li_59, li_60, li_63, li_89, li_93, li_97, li_99, li_100, li_108, li_110, li_120, li_122, li_125, li_129, li_133, li_200, li_253, li_1000, lo_0, lo_1, lo_10, lo_109103333, lo_12, lo_12343, lo_13, lo_17382886, lo_2, lo_20, lo_20194900, lo_25, lo_255, lo_27, lo_3, lo_31, lo_32, lo_4, lo_4153, lo_5, lo_537076, lo_6, lo_7, lo_8, lo_821, lo_9, lo_97, lo_99, ↓b_cl_1, ↓b_g_1_0, ↓b_g_1_1, ↓b_g_1_2, ↓b_g_1_3, ↓b_g_1_4, ↓b_p_1_4, ↓b_g_1_5, ↓b_p_1_5, ↓b_g_1_6, ↓b_g_1_7, ↓b_g_1_8, ↓b_p_1_8, ↓b_g_1_9, ↓b_g_1_10, ↓b_q_2, ↓b_l_2, ↓b_cl_3, ↓b_cl_4, ↓b_cl_5, ↓b_cl_6, ↓b_cl_7, ↓b_cl_8, ↓b_a_9, ↓b_s_9, ↓b_l_9, ↓b_a_10, ↓b_s_10, ↓b_l_10, ↓b_a_11, ↓b_s_11, ↓b_l_11, ↓b_a_12, ↓b_s_12, ↓b_l_12, ↓b_a_13, ↓b_s_13, ↓b_l_13, ↓b_cl_14, ↓b_g_14_0, ↓b_g_14_1, ↓b_p_14_1, ↓b_g_14_2, ↓b_g_14_3, ↓b_g_14_4, ↓b_g_14_5, ↓b_a_15, ↓b_s_15, ↓b_l_15, ↓b_a_16, ↓b_s_16, ↓b_l_16, ↓b_a_17, ↓b_s_17, ↓b_l_17, ↓b_a_18, ↓b_s_18, ↓b_l_18, ↓b_a_19, ↓b_s_19, ↓b_l_19, ↓b_cl_20, ↓b_g_20_0, ↓b_g_20_1, ↓b_g_20_2, ↓b_a_21, ↓b_s_21, ↓b_l_21, ↓b_a_22, ↓b_s_22, ↓b_l_22, ↓b_a_23, ↓b_s_23, ↓b_l_23, h17, h16, orN, ↓x_isSet (show R ||| 1 < 2147483648 by omega) (show j < 31 by omega), ↓x_isSet (show R < 2147483648 by omega) (show j + 1 < 31 by omega), e1, e2, shl1, Bool.false_eq_true]; done)
        | (rw [decide_eq_false q1, decide_eq_false q2, decide_eq_false q3] at hst; simp only [Bool.true_or, Bool.or_true, Bool.false_or, Bool.or_false, Bool.true_and, Bool.and_true, Bool.false_and, Bool.and_false] at hst; subst hst; simp (disch := omega) only [UX0_step_6, UX0_step_56, UX0_step_91, UX0_step_108, ↓qb_as, ↓qb_it, ↓qi_ap, ↓reduceIte, ↓qb_qr, ↓qr_ap, ↓qb_gd, ↓gd_ap, ↓qb_so, ↓in_ok, eu_ap, up_ap, er_ap, eB_ap, uL_ap, ltT, ltF, leT, leF, eqT, eqF, nltT, nltF, nleT, nleF, neqT, neqF, clN, nI_add, pk_mul, pk_sub, divN, remN, lLT, lLF, toL, eq_self, and_self, or_self, or_false, false_or, or_true, true_or, and_true, true_and, and_false, false_and, not_true_eq_false, not_false_eq_true, if_true, if_false, ite_true, ite_false, Nat.reduceAdd, Nat.reduceMul, Nat.reduceSub, Nat.reduceDiv, Nat.reduceMod, Nat.reducePow, Nat.reduceEqDiff, Nat.reduceLT, li_0, li_1, li_2, li_3, li_4, li_5, li_6, li_7, li_8, li_9, li_10, li_11, li_12, li_13, li_15, li_16, li_20, li_25, li_26, li_27, li_29, li_30, li_31, li_32, li_43, li_46, li_48, li_49, li_57, li_59, li_60, li_63, li_89, li_93, li_97, li_99, li_100, li_108, li_110, li_120, li_122, li_125, li_129, li_133, li_200, li_253, li_1000, lo_0, lo_1, lo_10, lo_109103333, lo_12, lo_12343, lo_13, lo_17382886, lo_2, lo_20, lo_20194900, lo_25, lo_255, lo_27, lo_3, lo_31, lo_32, lo_4, lo_4153, lo_5, lo_537076, lo_6, lo_7, lo_8, lo_821, lo_9, lo_97, lo_99, ↓b_cl_1, ↓b_g_1_0, ↓b_g_1_1, ↓b_g_1_2, ↓b_g_1_3, ↓b_g_1_4, ↓b_p_1_4, ↓b_g_1_5, ↓b_p_1_5, ↓b_g_1_6, ↓b_g_1_7, ↓b_g_1_8, ↓b_p_1_8, ↓b_g_1_9, ↓b_g_1_10, ↓b_q_2, ↓b_l_2, ↓b_cl_3, ↓b_cl_4, ↓b_cl_5, ↓b_cl_6, ↓b_cl_7, ↓b_cl_8, ↓b_a_9, ↓b_s_9, ↓b_l_9, ↓b_a_10, ↓b_s_10, ↓b_l_10, ↓b_a_11, ↓b_s_11, ↓b_l_11, ↓b_a_12, ↓b_s_12, ↓b_l_12, ↓b_a_13, ↓b_s_13, ↓b_l_13, ↓b_cl_14, ↓b_g_14_0, ↓b_g_14_1, ↓b_p_14_1, ↓b_g_14_2, ↓b_g_14_3, ↓b_g_14_4, ↓b_g_14_5, ↓b_a_15, ↓b_s_15, ↓b_l_15, ↓b_a_16, ↓b_s_16, ↓b_l_16, ↓b_a_17, ↓b_s_17, ↓b_l_17, ↓b_a_18, ↓b_s_18, ↓b_l_18, ↓b_a_19, ↓b_s_19, ↓b_l_19, ↓b_cl_20, ↓b_g_20_0, ↓b_g_20_1, ↓b_g_20_2, ↓b_a_21, ↓b_s_21, ↓b_l_21, ↓b_a_22, ↓b_s_22, ↓b_l_22, ↓b_a_23, ↓b_s_23, ↓b_l_23, h17, h16, orN, ↓x_isSet (show R ||| 1 < 2147483648 by omega) (show j < 31 by omega), ↓x_isSet (show R < 2147483648 by omega) (show j + 1 < 31 by omega), e1, e2, shl1, Bool.false_eq_true]; done)
    have k2 := key _ rfl
    have hV2 : V < 2 ^ (j + 2) := Nat.lt_of_lt_of_le hV (Nat.pow_le_pow_right (by decide) (by omega))
    have hV3 : (if stp (lwS S i) (S 8 i) R.testBit c (j + 1) = true then V ||| 2 ^ (j + 1) else V) < 2 ^ (j + 1 + 1) := by
      split
      · exact Nat.or_lt_two_pow hV2 (Nat.pow_lt_pow_right (by decide) (by omega))
      · exact hV2
    obtain ⟨V', e, g1, g2⟩ := ih (j + 1) N _ (by omega) (by omega) hV3 (fun l => by
      by_cases q1 : l = j + 1
      · subst q1
        rw [decide_eq_true (Nat.le_refl _), Bool.true_and]
        cases e : stp (lwS S i) (S 8 i) R.testBit c (j + 1)
        · rw [if_neg (by decide), tb_hi hV (Nat.le_refl _)]
        · rw [if_pos rfl, Nat.testBit_or, Nat.testBit_two_pow, decide_eq_true rfl, Bool.or_true]
      · have h3 : V.testBit l = (decide (l ≤ j + 1) && stp (lwS S i) (S 8 i) R.testBit c l) := by
          rw [hb l]
          by_cases q2 : l ≤ j
          · rw [decide_eq_true q2, decide_eq_true (by omega)]
          · rw [decide_eq_false q2, decide_eq_false (by omega)]
        split
        · rw [Nat.testBit_or, Nat.testBit_two_pow, decide_eq_false (by omega), Bool.or_false, h3]
        · exact h3)
    exact ⟨V', k2.trans e, g1, g2⟩
theorem x_step {t : Nat} {S : eS} {A : eA} (B : eB) (f : Nat → Option Nat) (n : Nat) (hs : sok t S) (hr : rC S A 1) {i R c : Nat} (hi : i < 4) (hR : R < 512) (hc : c < 26) : ∃ V', FX0_step 14 (nI i) (nI R) (nI c) (enc A B f n) = some (nI V', enc A B f n) ∧ V' < 512 ∧ ∀ l, V'.testBit l = stp (lwS S i) (S 8 i) R.testBit c l :=
  w_step B f n hs hr hi hR hc (S 8 i) 0 1000000 0 (by omega) (by have := (hs.2.2.2.2.2.2.2.2.2.2.2.1 i hi).1; omega) (by decide) (fun l => by
    rw [Nat.zero_testBit]
    by_cases q : l ≤ 0
    · have : l = 0 := by omega
      subst this
      rfl
    · rw [decide_eq_false q, Bool.false_and])
/-- the law i of S is as a row of signs that ends behind k of them -/
def qq (S : eS) (i : Nat) (sg : Nat → Nat) (k : Nat) : Bool := decide (0 < S 8 i) && rch (lwS S i) (S 8 i) sg k (S 8 i)
theorem x_isBroken {β : Type} {t : Nat} {S : eS} {A : eA} (B : eB) (f : Nat → Option Nat) (n : Nat) (hs : sok t S) (hr : rC S A 1) {i R : Nat} (hi : i < 4) (hR : R < 512) (K : Int32 → qP β) : qb (FX0_isBroken 14 (nI i) (nI R)) K (enc A B f n) = if (decide (0 < S 8 i) && R.testBit (S 8 i)) = true then K (nI 1) (enc A B f n) else K (nI 0) (enc A B f n) := by
  have h17 : A 17 i = nI (S 8 i) := hr.2.2.2.2.2.2.2.2.2.2.2.2.2.1 i hi
  have hz := (hs.2.2.2.2.2.2.2.2.2.2.2.1 i hi).1
  by_cases q : 0 < S 8 i
  · rw [decide_eq_true q, Bool.true_and]
    cases e : R.testBit (S 8 i)
    · simp (disch := omega) only [FX0_isBroken, ↓qb_as, ↓qb_it, ↓qi_ap, ↓reduceIte, ↓qb_qr, ↓qr_ap, ↓qb_gd, ↓gd_ap, ↓qb_so, ↓in_ok, eu_ap, up_ap, er_ap, eB_ap, uL_ap, ltT, ltF, leT, leF, eqT, eqF, nltT, nltF, nleT, nleF, neqT, neqF, clN, nI_add, pk_mul, pk_sub, divN, remN, lLT, lLF, toL, eq_self, and_self, or_self, or_false, false_or, or_true, true_or, and_true, true_and, and_false, false_and, not_true_eq_false, not_false_eq_true, if_true, if_false, ite_true, ite_false, Nat.reduceAdd, Nat.reduceMul, Nat.reduceSub, Nat.reduceDiv, Nat.reduceMod, Nat.reducePow, Nat.reduceEqDiff, Nat.reduceLT, li_0, li_1, li_2, li_3, li_4, li_5, li_6, li_7, li_8, li_9, li_10, li_11, li_12, li_13, li_15, li_16, li_20, li_25, li_26, li_27, li_29, li_30, li_31, li_32, li_43, li_46, li_48, li_49, li_57, li_59, li_60, li_63, li_89, li_93, li_97, li_99, li_100, li_108, li_110, li_120, li_122, li_125, li_129, li_133, li_200, li_253, li_1000, lo_0, lo_1, lo_10, lo_109103333, lo_12, lo_12343, lo_13, lo_17382886, lo_2, lo_20, lo_20194900, lo_25, lo_255, lo_27, lo_3, lo_31, lo_32, lo_4, lo_4153, lo_5, lo_537076, lo_6, lo_7, lo_8, lo_821, lo_9, lo_97, lo_99, ↓b_cl_1, ↓b_g_1_0, ↓b_g_1_1, ↓b_g_1_2, ↓b_g_1_3, ↓b_g_1_4, ↓b_p_1_4, ↓b_g_1_5, ↓b_p_1_5, ↓b_g_1_6, ↓b_g_1_7, ↓b_g_1_8, ↓b_p_1_8, ↓b_g_1_9, ↓b_g_1_10, ↓b_q_2, ↓b_l_2, ↓b_cl_3, ↓b_cl_4, ↓b_cl_5, ↓b_cl_6, ↓b_cl_7, ↓b_cl_8, ↓b_a_9, ↓b_s_9, ↓b_l_9, ↓b_a_10, ↓b_s_10, ↓b_l_10, ↓b_a_11, ↓b_s_11, ↓b_l_11, ↓b_a_12, ↓b_s_12, ↓b_l_12, ↓b_a_13, ↓b_s_13, ↓b_l_13, ↓b_cl_14, ↓b_g_14_0, ↓b_g_14_1, ↓b_p_14_1, ↓b_g_14_2, ↓b_g_14_3, ↓b_g_14_4, ↓b_g_14_5, ↓b_a_15, ↓b_s_15, ↓b_l_15, ↓b_a_16, ↓b_s_16, ↓b_l_16, ↓b_a_17, ↓b_s_17, ↓b_l_17, ↓b_a_18, ↓b_s_18, ↓b_l_18, ↓b_a_19, ↓b_s_19, ↓b_l_19, ↓b_cl_20, ↓b_g_20_0, ↓b_g_20_1, ↓b_g_20_2, ↓b_a_21, ↓b_s_21, ↓b_l_21, ↓b_a_22, ↓b_s_22, ↓b_l_22, ↓b_a_23, ↓b_s_23, ↓b_l_23, h17, ↓x_isSet (show R < 2147483648 by omega) (show S 8 i < 31 by omega), e, Bool.false_eq_true]
    · simp (disch := omega) only [FX0_isBroken, ↓qb_as, ↓qb_it, ↓qi_ap, ↓reduceIte, ↓qb_qr, ↓qr_ap, ↓qb_gd, ↓gd_ap, ↓qb_so, ↓in_ok, eu_ap, up_ap, er_ap, eB_ap, uL_ap, ltT, ltF, leT, leF, eqT, eqF, nltT, nltF, nleT, nleF, neqT, neqF, clN, nI_add, pk_mul, pk_sub, divN, remN, lLT, lLF, toL, eq_self, and_self, or_self, or_false, false_or, or_true, true_or, and_true, true_and, and_false, false_and, not_true_eq_false, not_false_eq_true, if_true, if_false, ite_true, ite_false, Nat.reduceAdd, Nat.reduceMul, Nat.reduceSub, Nat.reduceDiv, Nat.reduceMod, Nat.reducePow, Nat.reduceEqDiff, Nat.reduceLT, li_0, li_1, li_2, li_3, li_4, li_5, li_6, li_7, li_8, li_9, li_10, li_11, li_12, li_13, li_15, li_16, li_20, li_25, li_26, li_27, li_29, li_30, li_31, li_32, li_43, li_46, li_48, li_49, li_57, li_59, li_60, li_63, li_89, li_93, li_97, li_99, li_100, li_108, li_110, li_120, li_122, li_125, li_129, li_133, li_200, li_253, li_1000, lo_0, lo_1, lo_10, lo_109103333, lo_12, lo_12343, lo_13, lo_17382886, lo_2, lo_20, lo_20194900, lo_25, lo_255, lo_27, lo_3, lo_31, lo_32, lo_4, lo_4153, lo_5, lo_537076, lo_6, lo_7, lo_8, lo_821, lo_9, lo_97, lo_99, ↓b_cl_1, ↓b_g_1_0, ↓b_g_1_1, ↓b_g_1_2, ↓b_g_1_3, ↓b_g_1_4, ↓b_p_1_4, ↓b_g_1_5, ↓b_p_1_5, ↓b_g_1_6, ↓b_g_1_7, ↓b_g_1_8, ↓b_p_1_8, ↓b_g_1_9, ↓b_g_1_10, ↓b_q_2, ↓b_l_2, ↓b_cl_3, ↓b_cl_4, ↓b_cl_5, ↓b_cl_6, ↓b_cl_7, ↓b_cl_8, ↓b_a_9, ↓b_s_9, ↓b_l_9, ↓b_a_10, ↓b_s_10, ↓b_l_10, ↓b_a_11, ↓b_s_11, ↓b_l_11, ↓b_a_12, ↓b_s_12, ↓b_l_12, ↓b_a_13, ↓b_s_13, ↓b_l_13, ↓b_cl_14, ↓b_g_14_0, ↓b_g_14_1, ↓b_p_14_1, ↓b_g_14_2, ↓b_g_14_3, ↓b_g_14_4, ↓b_g_14_5, ↓b_a_15, ↓b_s_15, ↓b_l_15, ↓b_a_16, ↓b_s_16, ↓b_l_16, ↓b_a_17, ↓b_s_17, ↓b_l_17, ↓b_a_18, ↓b_s_18, ↓b_l_18, ↓b_a_19, ↓b_s_19, ↓b_l_19, ↓b_cl_20, ↓b_g_20_0, ↓b_g_20_1, ↓b_g_20_2, ↓b_a_21, ↓b_s_21, ↓b_l_21, ↓b_a_22, ↓b_s_22, ↓b_l_22, ↓b_a_23, ↓b_s_23, ↓b_l_23, h17, ↓x_isSet (show R < 2147483648 by omega) (show S 8 i < 31 by omega), e]
  · rw [decide_eq_false q, Bool.false_and, if_neg (by decide)]
    simp (disch := omega) only [FX0_isBroken, ↓qb_as, ↓qb_it, ↓qi_ap, ↓reduceIte, ↓qb_qr, ↓qr_ap, ↓qb_gd, ↓gd_ap, ↓qb_so, ↓in_ok, eu_ap, up_ap, er_ap, eB_ap, uL_ap, ltT, ltF, leT, leF, eqT, eqF, nltT, nltF, nleT, nleF, neqT, neqF, clN, nI_add, pk_mul, pk_sub, divN, remN, lLT, lLF, toL, eq_self, and_self, or_self, or_false, false_or, or_true, true_or, and_true, true_and, and_false, false_and, not_true_eq_false, not_false_eq_true, if_true, if_false, ite_true, ite_false, Nat.reduceAdd, Nat.reduceMul, Nat.reduceSub, Nat.reduceDiv, Nat.reduceMod, Nat.reducePow, Nat.reduceEqDiff, Nat.reduceLT, li_0, li_1, li_2, li_3, li_4, li_5, li_6, li_7, li_8, li_9, li_10, li_11, li_12, li_13, li_15, li_16, li_20, li_25, li_26, li_27, li_29, li_30, li_31, li_32, li_43, li_46, li_48, li_49, li_57, li_59, li_60, li_63, li_89, li_93, li_97, li_99, li_100, li_108, li_110, li_120, li_122, li_125, li_129, li_133, li_200, li_253, li_1000, lo_0, lo_1, lo_10, lo_109103333, lo_12, lo_12343, lo_13, lo_17382886, lo_2, lo_20, lo_20194900, lo_25, lo_255, lo_27, lo_3, lo_31, lo_32, lo_4, lo_4153, lo_5, lo_537076, lo_6, lo_7, lo_8, lo_821, lo_9, lo_97, lo_99, ↓b_cl_1, ↓b_g_1_0, ↓b_g_1_1, ↓b_g_1_2, ↓b_g_1_3, ↓b_g_1_4, ↓b_p_1_4, ↓b_g_1_5, ↓b_p_1_5, ↓b_g_1_6, ↓b_g_1_7, ↓b_g_1_8, ↓b_p_1_8, ↓b_g_1_9, ↓b_g_1_10, ↓b_q_2, ↓b_l_2, ↓b_cl_3, ↓b_cl_4, ↓b_cl_5, ↓b_cl_6, ↓b_cl_7, ↓b_cl_8, ↓b_a_9, ↓b_s_9, ↓b_l_9, ↓b_a_10, ↓b_s_10, ↓b_l_10, ↓b_a_11, ↓b_s_11, ↓b_l_11, ↓b_a_12, ↓b_s_12, ↓b_l_12, ↓b_a_13, ↓b_s_13, ↓b_l_13, ↓b_cl_14, ↓b_g_14_0, ↓b_g_14_1, ↓b_p_14_1, ↓b_g_14_2, ↓b_g_14_3, ↓b_g_14_4, ↓b_g_14_5, ↓b_a_15, ↓b_s_15, ↓b_l_15, ↓b_a_16, ↓b_s_16, ↓b_l_16, ↓b_a_17, ↓b_s_17, ↓b_l_17, ↓b_a_18, ↓b_s_18, ↓b_l_18, ↓b_a_19, ↓b_s_19, ↓b_l_19, ↓b_cl_20, ↓b_g_20_0, ↓b_g_20_1, ↓b_g_20_2, ↓b_a_21, ↓b_s_21, ↓b_l_21, ↓b_a_22, ↓b_s_22, ↓b_l_22, ↓b_a_23, ↓b_s_23, ↓b_l_23, h17]
/-- the first place -/
def wSp (q : Nat → Bool) (n : Nat) (v : Int32) : Prop := (v = -nI 1 ∧ ∀ y, y < n → q (y + 1) = false) ∨ ∃ x, x < n ∧ v = nI x ∧ q (x + 1) = true ∧ ∀ y, y < x → q (y + 1) = false
theorem wSp_u {q : Nat → Bool} {n : Nat} {v v' : Int32} (h : wSp q n v) (h' : wSp q n v') : v = v' := by
  rcases h with ⟨e, h⟩ | ⟨x, hx, e, h1, h2⟩ <;> rcases h' with ⟨e', h'⟩ | ⟨x', hx', e', h1', h2'⟩
  · rw [e, e']
  · rw [h x' hx'] at h1'; cases h1'
  · rw [h' x hx] at h1; cases h1
  · rcases Nat.lt_trichotomy x x' with q | q | q
    · rw [h2' x q] at h1; cases h1
    · rw [e, e', q]
    · rw [h2 x' q] at h1'; cases h1'
theorem wSp_c {q q' : Nat → Bool} {n : Nat} {v : Int32} (hq : ∀ k, k ≤ n → q k = q' k) (h : wSp q n v) : wSp q' n v := by
  rcases h with ⟨e, h⟩ | ⟨x, hx, e, h1, h2⟩
  · exact Or.inl ⟨e, fun y hy => by rw [← hq _ (by omega)]; exact h y hy⟩
  · exact Or.inr ⟨x, hx, e, by rw [← hq _ (by omega)]; exact h1, fun y hy => by rw [← hq _ (by omega)]; exact h2 y hy⟩
theorem wSp_m {q : Nat → Bool} {n : Nat} {v : Int32} (hn : n < 1000) (h : wSp q n v) : (v = -nI 1) ↔ ∀ y, y < n → q (y + 1) = false := by
  rcases h with ⟨e, h⟩ | ⟨x, hx, e, h1, h2⟩
  · exact ⟨fun _ => h, fun _ => e⟩
  · refine ⟨fun e2 => ?_, fun g => ?_⟩
    · rw [e, eqM (by omega)] at e2; exact e2.elim
    · rw [g x hx] at h1; cases h1
theorem wSp_k {β : Type} {q : Nat → Bool} {n : Nat} {v : Int32} (hn : n < 1000) (h : wSp q n v) (K : Int32 → qP β) (w : qH) : qb (FX11_counted 0 v) K w = K v w := by
  rcases h with ⟨rfl, h⟩ | ⟨x, hx, rfl, h1, h2⟩
  · exact c_m1 K w
  · exact c_ok (by omega) K w
set_option maxRecDepth 100000 in
set_option maxHeartbeats 4000000 in
theorem w_fw {t : Nat} {S : eS} {A : eA} (B : eB) (f : Nat → Option Nat) (n : Nat) (hs : sok t S) (hr : rC S A 1) {i : Nat} (hi : i < 4) : ∀ (d j N R : Nat), j + d = S 0 3 → d < N → R < 512 → (∀ l, R.testBit l = rch (lwS S i) (S 8 i) (S 6) j l) → (∀ y, y < j → qq S i (S 6) (y + 1) = false) → ∃ v, WX0_firstWord_4 N 14 (nI i) (nI R) (nI j) (enc A B f n) = some (v, enc A B f n) ∧ wSp (qq S i (S 6)) (S 0 3) v := by
  have c3 : A 14 1 = nI (S 0 3) := hr.2.2.2.1
  have c12 : ∀ j, j < S 0 3 → A 15 j = nI (S 6 j) := hr.2.2.2.2.2.2.2.2.2.2.2.2.1
  have z3 := hs.2.2.2.1
  have z10 := hs.2.2.2.2.2.2.2.2.2.2.1
  intro d
  induction d with
  | zero =>
    intro j N R hj hN hR hb hp
    obtain ⟨N, rfl⟩ : ∃ M, N = M + 1 := ⟨N - 1, by omega⟩
    refine ⟨-nI 1, ?_, Or.inl ⟨rfl, fun y hy => hp y (by omega)⟩⟩
    show UX0_firstWord_4 (WX0_firstWord_4 N) 14 (nI i) (nI R) (nI j) (enc A B f n) = _
    simp (disch := omega) only [UX0_firstWord_4, ↓qb_as, ↓qb_it, ↓qi_ap, ↓reduceIte, ↓qb_qr, ↓qr_ap, ↓qb_gd, ↓gd_ap, ↓qb_so, ↓in_ok, eu_ap, up_ap, er_ap, eB_ap, uL_ap, ltT, ltF, leT, leF, eqT, eqF, nltT, nltF, nleT, nleF, neqT, neqF, clN, nI_add, pk_mul, pk_sub, divN, remN, lLT, lLF, toL, eq_self, and_self, or_self, or_false, false_or, or_true, true_or, and_true, true_and, and_false, false_and, not_true_eq_false, not_false_eq_true, if_true, if_false, ite_true, ite_false, Nat.reduceAdd, Nat.reduceMul, Nat.reduceSub, Nat.reduceDiv, Nat.reduceMod, Nat.reducePow, Nat.reduceEqDiff, Nat.reduceLT, li_0, li_1, li_2, li_3, li_4, li_5, li_6, li_7, li_8, li_9, li_10, li_11, li_12, li_13, li_15, li_16, li_20, li_25, li_26, li_27, li_29, li_30, li_31, li_32, li_43, li_46, li_48, li_49, li_57, li_59, li_60, li_63, li_89, li_93, li_97, li_99, li_100, li_108, li_110, li_120, li_122, li_125, li_129, li_133, li_200, li_253, li_1000, lo_0, lo_1, lo_10, lo_109103333, lo_12, lo_12343, lo_13, lo_17382886, lo_2, lo_20, lo_20194900, lo_25, lo_255, lo_27, lo_3, lo_31, lo_32, lo_4, lo_4153, lo_5, lo_537076, lo_6, lo_7, lo_8, lo_821, lo_9, lo_97, lo_99, ↓b_cl_1, ↓b_g_1_0, ↓b_g_1_1, ↓b_g_1_2, ↓b_g_1_3, ↓b_g_1_4, ↓b_p_1_4, ↓b_g_1_5, ↓b_p_1_5, ↓b_g_1_6, ↓b_g_1_7, ↓b_g_1_8, ↓b_p_1_8, ↓b_g_1_9, ↓b_g_1_10, ↓b_q_2, ↓b_l_2, ↓b_cl_3, ↓b_cl_4, ↓b_cl_5, ↓b_cl_6, ↓b_cl_7, ↓b_cl_8, ↓b_a_9, ↓b_s_9, ↓b_l_9, ↓b_a_10, ↓b_s_10, ↓b_l_10, ↓b_a_11, ↓b_s_11, ↓b_l_11, ↓b_a_12, ↓b_s_12, ↓b_l_12, ↓b_a_13, ↓b_s_13, ↓b_l_13, ↓b_cl_14, ↓b_g_14_0, ↓b_g_14_1, ↓b_p_14_1, ↓b_g_14_2, ↓b_g_14_3, ↓b_g_14_4, ↓b_g_14_5, ↓b_a_15, ↓b_s_15, ↓b_l_15, ↓b_a_16, ↓b_s_16, ↓b_l_16, ↓b_a_17, ↓b_s_17, ↓b_l_17, ↓b_a_18, ↓b_s_18, ↓b_l_18, ↓b_a_19, ↓b_s_19, ↓b_l_19, ↓b_cl_20, ↓b_g_20_0, ↓b_g_20_1, ↓b_g_20_2, ↓b_a_21, ↓b_s_21, ↓b_l_21, ↓b_a_22, ↓b_s_22, ↓b_l_22, ↓b_a_23, ↓b_s_23, ↓b_l_23, c3]
  | succ d ih =>
    intro j N R hj hN hR hb hp
    obtain ⟨N, rfl⟩ : ∃ M, N = M + 1 := ⟨N - 1, by omega⟩
    have hc := z10 j (by omega)
    obtain ⟨V, e, g1, g2⟩ := x_step B f n hs hr hi hR hc
    have g3 : ∀ l, V.testBit l = rch (lwS S i) (S 8 i) (S 6) (j + 1) l := fun l => by rw [g2 l]; exact stp_c hb l
    have hk := x_isBroken (β := Int32) B f n hs hr hi g1
    have hq : (decide (0 < S 8 i) && V.testBit (S 8 i)) = qq S i (S 6) (j + 1) := by rw [g3]; rfl
    rw [hq] at hk
    have h15 := c12 j (by omega)
    show ∃ v, UX0_firstWord_4 (WX0_firstWord_4 N) 14 (nI i) (nI R) (nI j) (enc A B f n) = _ ∧ _
    cases e3 : qq S i (S 6) (j + 1)
    · obtain ⟨v, e2, g⟩ := ih (j + 1) N V (by omega) (by omega) g1 g3 (fun y hy => by
        by_cases q : y = j
        · subst q; exact e3
        · exact hp y (by omega))
      refine ⟨v, ?_, g⟩
      simp (disch := omega) only [UX0_firstWord_4, ↓qb_as, ↓qb_it, ↓qi_ap, ↓reduceIte, ↓qb_qr, ↓qr_ap, ↓qb_gd, ↓gd_ap, ↓qb_so, ↓in_ok, eu_ap, up_ap, er_ap, eB_ap, uL_ap, ltT, ltF, leT, leF, eqT, eqF, nltT, nltF, nleT, nleF, neqT, neqF, clN, nI_add, pk_mul, pk_sub, divN, remN, lLT, lLF, toL, eq_self, and_self, or_self, or_false, false_or, or_true, true_or, and_true, true_and, and_false, false_and, not_true_eq_false, not_false_eq_true, if_true, if_false, ite_true, ite_false, Nat.reduceAdd, Nat.reduceMul, Nat.reduceSub, Nat.reduceDiv, Nat.reduceMod, Nat.reducePow, Nat.reduceEqDiff, Nat.reduceLT, li_0, li_1, li_2, li_3, li_4, li_5, li_6, li_7, li_8, li_9, li_10, li_11, li_12, li_13, li_15, li_16, li_20, li_25, li_26, li_27, li_29, li_30, li_31, li_32, li_43, li_46, li_48, li_49, li_57, li_59, li_60, li_63, li_89, li_93, li_97, li_99, li_100, li_108, li_110, li_120, li_122, li_125, li_129, li_133, li_200, li_253, li_1000, lo_0, lo_1, lo_10, lo_109103333, lo_12, lo_12343, lo_13, lo_17382886, lo_2, lo_20, lo_20194900, lo_25, lo_255, lo_27, lo_3, lo_31, lo_32, lo_4, lo_4153, lo_5, lo_537076, lo_6, lo_7, lo_8, lo_821, lo_9, lo_97, lo_99, ↓b_cl_1, ↓b_g_1_0, ↓b_g_1_1, ↓b_g_1_2, ↓b_g_1_3, ↓b_g_1_4, ↓b_p_1_4, ↓b_g_1_5, ↓b_p_1_5, ↓b_g_1_6, ↓b_g_1_7, ↓b_g_1_8, ↓b_p_1_8, ↓b_g_1_9, ↓b_g_1_10, ↓b_q_2, ↓b_l_2, ↓b_cl_3, ↓b_cl_4, ↓b_cl_5, ↓b_cl_6, ↓b_cl_7, ↓b_cl_8, ↓b_a_9, ↓b_s_9, ↓b_l_9, ↓b_a_10, ↓b_s_10, ↓b_l_10, ↓b_a_11, ↓b_s_11, ↓b_l_11, ↓b_a_12, ↓b_s_12, ↓b_l_12, ↓b_a_13, ↓b_s_13, ↓b_l_13, ↓b_cl_14, ↓b_g_14_0, ↓b_g_14_1, ↓b_p_14_1, ↓b_g_14_2, ↓b_g_14_3, ↓b_g_14_4, ↓b_g_14_5, ↓b_a_15, ↓b_s_15, ↓b_l_15, ↓b_a_16, ↓b_s_16, ↓b_l_16, ↓b_a_17, ↓b_s_17, ↓b_l_17, ↓b_a_18, ↓b_s_18, ↓b_l_18, ↓b_a_19, ↓b_s_19, ↓b_l_19, ↓b_cl_20, ↓b_g_20_0, ↓b_g_20_1, ↓b_g_20_2, ↓b_a_21, ↓b_s_21, ↓b_l_21, ↓b_a_22, ↓b_s_22, ↓b_l_22, ↓b_a_23, ↓b_s_23, ↓b_l_23, c3, h15, ↓qb_of e, ↓hk, e3, Bool.false_eq_true]
      exact e2
    · refine ⟨nI j, ?_, Or.inr ⟨j, by omega, rfl, e3, hp⟩⟩
      simp (disch := omega) only [UX0_firstWord_4, ↓qb_as, ↓qb_it, ↓qi_ap, ↓reduceIte, ↓qb_qr, ↓qr_ap, ↓qb_gd, ↓gd_ap, ↓qb_so, ↓in_ok, eu_ap, up_ap, er_ap, eB_ap, uL_ap, ltT, ltF, leT, leF, eqT, eqF, nltT, nltF, nleT, nleF, neqT, neqF, clN, nI_add, pk_mul, pk_sub, divN, remN, lLT, lLF, toL, eq_self, and_self, or_self, or_false, false_or, or_true, true_or, and_true, true_and, and_false, false_and, not_true_eq_false, not_false_eq_true, if_true, if_false, ite_true, ite_false, Nat.reduceAdd, Nat.reduceMul, Nat.reduceSub, Nat.reduceDiv, Nat.reduceMod, Nat.reducePow, Nat.reduceEqDiff, Nat.reduceLT, li_0, li_1, li_2, li_3, li_4, li_5, li_6, li_7, li_8, li_9, li_10, li_11, li_12, li_13, li_15, li_16, li_20, li_25, li_26, li_27, li_29, li_30, li_31, li_32, li_43, li_46, li_48, li_49, li_57, li_59, li_60, li_63, li_89, li_93, li_97, li_99, li_100, li_108, li_110, li_120, li_122, li_125, li_129, li_133, li_200, li_253, li_1000, lo_0, lo_1, lo_10, lo_109103333, lo_12, lo_12343, lo_13, lo_17382886, lo_2, lo_20, lo_20194900, lo_25, lo_255, lo_27, lo_3, lo_31, lo_32, lo_4, lo_4153, lo_5, lo_537076, lo_6, lo_7, lo_8, lo_821, lo_9, lo_97, lo_99, ↓b_cl_1, ↓b_g_1_0, ↓b_g_1_1, ↓b_g_1_2, ↓b_g_1_3, ↓b_g_1_4, ↓b_p_1_4, ↓b_g_1_5, ↓b_p_1_5, ↓b_g_1_6, ↓b_g_1_7, ↓b_g_1_8, ↓b_p_1_8, ↓b_g_1_9, ↓b_g_1_10, ↓b_q_2, ↓b_l_2, ↓b_cl_3, ↓b_cl_4, ↓b_cl_5, ↓b_cl_6, ↓b_cl_7, ↓b_cl_8, ↓b_a_9, ↓b_s_9, ↓b_l_9, ↓b_a_10, ↓b_s_10, ↓b_l_10, ↓b_a_11, ↓b_s_11, ↓b_l_11, ↓b_a_12, ↓b_s_12, ↓b_l_12, ↓b_a_13, ↓b_s_13, ↓b_l_13, ↓b_cl_14, ↓b_g_14_0, ↓b_g_14_1, ↓b_p_14_1, ↓b_g_14_2, ↓b_g_14_3, ↓b_g_14_4, ↓b_g_14_5, ↓b_a_15, ↓b_s_15, ↓b_l_15, ↓b_a_16, ↓b_s_16, ↓b_l_16, ↓b_a_17, ↓b_s_17, ↓b_l_17, ↓b_a_18, ↓b_s_18, ↓b_l_18, ↓b_a_19, ↓b_s_19, ↓b_l_19, ↓b_cl_20, ↓b_g_20_0, ↓b_g_20_1, ↓b_g_20_2, ↓b_a_21, ↓b_s_21, ↓b_l_21, ↓b_a_22, ↓b_s_22, ↓b_l_22, ↓b_a_23, ↓b_s_23, ↓b_l_23, c3, h15, ↓qb_of e, ↓hk, e3]
theorem x_fw {t : Nat} {S : eS} {A : eA} (B : eB) (f : Nat → Option Nat) (n : Nat) (hs : sok t S) (hr : rC S A 1) {i : Nat} (hi : i < 4) : ∃ v, FX0_firstWord 14 (nI i) (enc A B f n) = some (v, enc A B f n) ∧ wSp (qq S i (S 6)) (S 0 3) v :=
  w_fw B f n hs hr hi (S 0 3) 0 1000000 0 (by omega) (by have := hs.2.2.2.1; omega) (by decide) (fun l => Nat.zero_testBit l) (fun y hy => by omega)
/-- the laws that are not broken by so many signs -/
def silP (S : eS) (sg : Nat → Nat) (n l : Nat) : Prop := ∀ y, y < n → qq S l sg (y + 1) = false
set_option maxRecDepth 100000 in
set_option maxHeartbeats 4000000 in
theorem w_unb {t : Nat} {S : eS} {A : eA} (B : eB) (f : Nat → Option Nat) (n : Nat) (hs : sok t S) (hr : rC S A 1) : ∀ (d i N V : Nat), i + d = 4 → d < N → V < 2 ^ i → (∀ l, V.testBit l = true ↔ (l < i ∧ silP S (S 6) (S 0 3) l)) → ∃ V', WX0_unbroken_4 N 14 (nI V) (nI i) (enc A B f n) = some (nI V', enc A B f n) ∧ V' < 16 ∧ ∀ l, V'.testBit l = true ↔ (l < 4 ∧ silP S (S 6) (S 0 3) l) := by
  have z3 := hs.2.2.2.1
  intro d
  induction d with
  | zero =>
    intro i N V hi hN hV hb
    obtain ⟨N, rfl⟩ : ∃ M, N = M + 1 := ⟨N - 1, by omega⟩
    have e4 : i = 4 := by omega
    subst e4
    refine ⟨V, ?_, hV, hb⟩
    show UX0_unbroken_4 (WX0_unbroken_4 N) 14 (nI V) (nI 4) (enc A B f n) = _
    simp (disch := omega) only [UX0_unbroken_4, ↓qb_as, ↓qb_it, ↓qi_ap, ↓reduceIte, ↓qb_qr, ↓qr_ap, ↓qb_gd, ↓gd_ap, ↓qb_so, ↓in_ok, eu_ap, up_ap, er_ap, eB_ap, uL_ap, ltT, ltF, leT, leF, eqT, eqF, nltT, nltF, nleT, nleF, neqT, neqF, clN, nI_add, pk_mul, pk_sub, divN, remN, lLT, lLF, toL, eq_self, and_self, or_self, or_false, false_or, or_true, true_or, and_true, true_and, and_false, false_and, not_true_eq_false, not_false_eq_true, if_true, if_false, ite_true, ite_false, Nat.reduceAdd, Nat.reduceMul, Nat.reduceSub, Nat.reduceDiv, Nat.reduceMod, Nat.reducePow, Nat.reduceEqDiff, Nat.reduceLT, li_0, li_1, li_2, li_3, li_4, li_5, li_6, li_7, li_8, li_9, li_10, li_11, li_12, li_13, li_15, li_16, li_20, li_25, li_26, li_27, li_29, li_30, li_31, li_32, li_43, li_46, li_48, li_49, li_57, li_59, li_60, li_63, li_89, li_93, li_97, li_99, li_100, li_108, li_110, li_120, li_122, li_125, li_129, li_133, li_200, li_253, li_1000, lo_0, lo_1, lo_10, lo_109103333, lo_12, lo_12343, lo_13, lo_17382886, lo_2, lo_20, lo_20194900, lo_25, lo_255, lo_27, lo_3, lo_31, lo_32, lo_4, lo_4153, lo_5, lo_537076, lo_6, lo_7, lo_8, lo_821, lo_9, lo_97, lo_99, ↓b_cl_1, ↓b_g_1_0, ↓b_g_1_1, ↓b_g_1_2, ↓b_g_1_3, ↓b_g_1_4, ↓b_p_1_4, ↓b_g_1_5, ↓b_p_1_5, ↓b_g_1_6, ↓b_g_1_7, ↓b_g_1_8, ↓b_p_1_8, ↓b_g_1_9, ↓b_g_1_10, ↓b_q_2, ↓b_l_2, ↓b_cl_3, ↓b_cl_4, ↓b_cl_5, ↓b_cl_6, ↓b_cl_7, ↓b_cl_8, ↓b_a_9, ↓b_s_9, ↓b_l_9, ↓b_a_10, ↓b_s_10, ↓b_l_10, ↓b_a_11, ↓b_s_11, ↓b_l_11, ↓b_a_12, ↓b_s_12, ↓b_l_12, ↓b_a_13, ↓b_s_13, ↓b_l_13, ↓b_cl_14, ↓b_g_14_0, ↓b_g_14_1, ↓b_p_14_1, ↓b_g_14_2, ↓b_g_14_3, ↓b_g_14_4, ↓b_g_14_5, ↓b_a_15, ↓b_s_15, ↓b_l_15, ↓b_a_16, ↓b_s_16, ↓b_l_16, ↓b_a_17, ↓b_s_17, ↓b_l_17, ↓b_a_18, ↓b_s_18, ↓b_l_18, ↓b_a_19, ↓b_s_19, ↓b_l_19, ↓b_cl_20, ↓b_g_20_0, ↓b_g_20_1, ↓b_g_20_2, ↓b_a_21, ↓b_s_21, ↓b_l_21, ↓b_a_22, ↓b_s_22, ↓b_l_22, ↓b_a_23, ↓b_s_23, ↓b_l_23]
  | succ d ih =>
    intro i N V hi hN hV hb
    obtain ⟨N, rfl⟩ : ∃ M, N = M + 1 := ⟨N - 1, by omega⟩
    obtain ⟨v, e, g⟩ := x_fw B f n hs hr (show i < 4 by omega)
    have hm := wSp_m (by omega) g
    have hV2 : V < 2 ^ (i + 1) := Nat.lt_of_lt_of_le hV (Nat.pow_le_pow_right (by decide) (by omega))
    show ∃ V', UX0_unbroken_4 (WX0_unbroken_4 N) 14 (nI V) (nI i) (enc A B f n) = _ ∧ _
    by_cases q : v = -nI 1
    · obtain ⟨V', e2, g1, g2⟩ := ih (i + 1) N (V ||| 2 ^ i) (by omega) (by omega) (Nat.or_lt_two_pow hV2 (Nat.pow_lt_pow_right (by decide) (by omega))) (fun l => by
        rw [Nat.testBit_or, Nat.testBit_two_pow, Bool.or_eq_true, hb l, decide_eq_true_iff]
        constructor
        · rintro (⟨h1, h2⟩ | rfl)
          · exact ⟨by omega, h2⟩
          · exact ⟨by omega, hm.mp q⟩
        · rintro ⟨h1, h2⟩
          by_cases q2 : i = l
          · exact Or.inr q2
          · exact Or.inl ⟨by omega, h2⟩)
      refine ⟨V', ?_, g1, g2⟩
      simp (disch := omega) only [UX0_unbroken_4, ↓qb_as, ↓qb_it, ↓qi_ap, ↓reduceIte, ↓qb_qr, ↓qr_ap, ↓qb_gd, ↓gd_ap, ↓qb_so, ↓in_ok, eu_ap, up_ap, er_ap, eB_ap, uL_ap, ltT, ltF, leT, leF, eqT, eqF, nltT, nltF, nleT, nleF, neqT, neqF, clN, nI_add, pk_mul, pk_sub, divN, remN, lLT, lLF, toL, eq_self, and_self, or_self, or_false, false_or, or_true, true_or, and_true, true_and, and_false, false_and, not_true_eq_false, not_false_eq_true, if_true, if_false, ite_true, ite_false, Nat.reduceAdd, Nat.reduceMul, Nat.reduceSub, Nat.reduceDiv, Nat.reduceMod, Nat.reducePow, Nat.reduceEqDiff, Nat.reduceLT, li_0, li_1, li_2, li_3, li_4, li_5, li_6, li_7, li_8, li_9, li_10, li_11, li_12, li_13, li_15, li_16, li_20, li_25, li_26, li_27, li_29, li_30, li_31, li_32, li_43, li_46, li_48, li_49, li_57, li_59, li_60, li_63, li_89, li_93, li_97, li_99, li_100, li_108, li_110, li_120, li_122, li_125, li_129, li_133, li_200, li_253, li_1000, lo_0, lo_1, lo_10, lo_109103333, lo_12, lo_12343, lo_13, lo_17382886, lo_2, lo_20, lo_20194900, lo_25, lo_255, lo_27, lo_3, lo_31, lo_32, lo_4, lo_4153, lo_5, lo_537076, lo_6, lo_7, lo_8, lo_821, lo_9, lo_97, lo_99, ↓b_cl_1, ↓b_g_1_0, ↓b_g_1_1, ↓b_g_1_2, ↓b_g_1_3, ↓b_g_1_4, ↓b_p_1_4, ↓b_g_1_5, ↓b_p_1_5, ↓b_g_1_6, ↓b_g_1_7, ↓b_g_1_8, ↓b_p_1_8, ↓b_g_1_9, ↓b_g_1_10, ↓b_q_2, ↓b_l_2, ↓b_cl_3, ↓b_cl_4, ↓b_cl_5, ↓b_cl_6, ↓b_cl_7, ↓b_cl_8, ↓b_a_9, ↓b_s_9, ↓b_l_9, ↓b_a_10, ↓b_s_10, ↓b_l_10, ↓b_a_11, ↓b_s_11, ↓b_l_11, ↓b_a_12, ↓b_s_12, ↓b_l_12, ↓b_a_13, ↓b_s_13, ↓b_l_13, ↓b_cl_14, ↓b_g_14_0, ↓b_g_14_1, ↓b_p_14_1, ↓b_g_14_2, ↓b_g_14_3, ↓b_g_14_4, ↓b_g_14_5, ↓b_a_15, ↓b_s_15, ↓b_l_15, ↓b_a_16, ↓b_s_16, ↓b_l_16, ↓b_a_17, ↓b_s_17, ↓b_l_17, ↓b_a_18, ↓b_s_18, ↓b_l_18, ↓b_a_19, ↓b_s_19, ↓b_l_19, ↓b_cl_20, ↓b_g_20_0, ↓b_g_20_1, ↓b_g_20_2, ↓b_a_21, ↓b_s_21, ↓b_l_21, ↓b_a_22, ↓b_s_22, ↓b_l_22, ↓b_a_23, ↓b_s_23, ↓b_l_23, ↓qb_of e, q, orN, shl1]
      exact e2
    · obtain ⟨V', e2, g1, g2⟩ := ih (i + 1) N V (by omega) (by omega) hV2 (fun l => by
        rw [hb l]
        constructor
        · rintro ⟨h1, h2⟩
          exact ⟨by omega, h2⟩
        · rintro ⟨h1, h2⟩
          by_cases q2 : i = l
          · subst q2; exact absurd (hm.mpr h2) q
          · exact ⟨by omega, h2⟩)
      refine ⟨V', ?_, g1, g2⟩
      simp (disch := omega) only [UX0_unbroken_4, ↓qb_as, ↓qb_it, ↓qi_ap, ↓reduceIte, ↓qb_qr, ↓qr_ap, ↓qb_gd, ↓gd_ap, ↓qb_so, ↓in_ok, eu_ap, up_ap, er_ap, eB_ap, uL_ap, ltT, ltF, leT, leF, eqT, eqF, nltT, nltF, nleT, nleF, neqT, neqF, clN, nI_add, pk_mul, pk_sub, divN, remN, lLT, lLF, toL, eq_self, and_self, or_self, or_false, false_or, or_true, true_or, and_true, true_and, and_false, false_and, not_true_eq_false, not_false_eq_true, if_true, if_false, ite_true, ite_false, Nat.reduceAdd, Nat.reduceMul, Nat.reduceSub, Nat.reduceDiv, Nat.reduceMod, Nat.reducePow, Nat.reduceEqDiff, Nat.reduceLT, li_0, li_1, li_2, li_3, li_4, li_5, li_6, li_7, li_8, li_9, li_10, li_11, li_12, li_13, li_15, li_16, li_20, li_25, li_26, li_27, li_29, li_30, li_31, li_32, li_43, li_46, li_48, li_49, li_57, li_59, li_60, li_63, li_89, li_93, li_97, li_99, li_100, li_108, li_110, li_120, li_122, li_125, li_129, li_133, li_200, li_253, li_1000, lo_0, lo_1, lo_10, lo_109103333, lo_12, lo_12343, lo_13, lo_17382886, lo_2, lo_20, lo_20194900, lo_25, lo_255, lo_27, lo_3, lo_31, lo_32, lo_4, lo_4153, lo_5, lo_537076, lo_6, lo_7, lo_8, lo_821, lo_9, lo_97, lo_99, ↓b_cl_1, ↓b_g_1_0, ↓b_g_1_1, ↓b_g_1_2, ↓b_g_1_3, ↓b_g_1_4, ↓b_p_1_4, ↓b_g_1_5, ↓b_p_1_5, ↓b_g_1_6, ↓b_g_1_7, ↓b_g_1_8, ↓b_p_1_8, ↓b_g_1_9, ↓b_g_1_10, ↓b_q_2, ↓b_l_2, ↓b_cl_3, ↓b_cl_4, ↓b_cl_5, ↓b_cl_6, ↓b_cl_7, ↓b_cl_8, ↓b_a_9, ↓b_s_9, ↓b_l_9, ↓b_a_10, ↓b_s_10, ↓b_l_10, ↓b_a_11, ↓b_s_11, ↓b_l_11, ↓b_a_12, ↓b_s_12, ↓b_l_12, ↓b_a_13, ↓b_s_13, ↓b_l_13, ↓b_cl_14, ↓b_g_14_0, ↓b_g_14_1, ↓b_p_14_1, ↓b_g_14_2, ↓b_g_14_3, ↓b_g_14_4, ↓b_g_14_5, ↓b_a_15, ↓b_s_15, ↓b_l_15, ↓b_a_16, ↓b_s_16, ↓b_l_16, ↓b_a_17, ↓b_s_17, ↓b_l_17, ↓b_a_18, ↓b_s_18, ↓b_l_18, ↓b_a_19, ↓b_s_19, ↓b_l_19, ↓b_cl_20, ↓b_g_20_0, ↓b_g_20_1, ↓b_g_20_2, ↓b_a_21, ↓b_s_21, ↓b_l_21, ↓b_a_22, ↓b_s_22, ↓b_l_22, ↓b_a_23, ↓b_s_23, ↓b_l_23, ↓qb_of e, if_neg q]
      exact e2
theorem x_unb {t : Nat} {S : eS} {A : eA} (B : eB) (f : Nat → Option Nat) (n : Nat) (hs : sok t S) (hr : rC S A 1) : ∃ V', FX0_unbroken 14 (enc A B f n) = some (nI V', enc A B f n) ∧ V' < 16 ∧ ∀ l, V'.testBit l = true ↔ (l < 4 ∧ silP S (S 6) (S 0 3) l) :=
  w_unb B f n hs hr 4 0 1000000 0 (by omega) (by omega) (by decide) (fun l => by rw [Nat.zero_testBit]; exact ⟨fun h => (by cases h), fun h => by omega⟩)

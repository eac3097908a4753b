/-! read: names, verbs -/
def tL (j : Nat) : Nat := [4, 5, 6, 5, 3, 3, 3, 3, 2, 2].getD j 0
def tC (j i : Nat) : Nat := ([[112, 108, 111, 116], [115, 104, 105, 114, 116], [99, 104, 97, 114, 103, 101], [112, 114, 111, 111, 102], [108, 97, 119], [100, 97, 121], [49, 50, 59], [49, 108, 59], [100, 59], [49, 59]].getD j []).getD i 0
set_option maxRecDepth 100000 in
theorem tln (h : qH) : ∀ j, j < 10 → FJ0_length_8abf5 (1000000 + j) h = some (nI (tL j), h) := by
  intro j hj
  rcases (show j = 0 ∨ j = 1 ∨ j = 2 ∨ j = 3 ∨ j = 4 ∨ j = 5 ∨ j = 6 ∨ j = 7 ∨ j = 8 ∨ j = 9 by omega) with rfl | rfl | rfl | rfl | rfl | rfl | rfl | rfl | rfl | rfl
  all_goals
    first
    | (have e : ((FJ0_length_8abf5 (1000000 + 0) []).map Prod.fst) = some (nI (tL 0)) := by decide +kernel
       exact congrArg (fun v => some (v, h)) (Option.some.inj e))
    | (have e : ((FJ0_length_8abf5 (1000000 + 1) []).map Prod.fst) = some (nI (tL 1)) := by decide +kernel
       exact congrArg (fun v => some (v, h)) (Option.some.inj e))
    | (have e : ((FJ0_length_8abf5 (1000000 + 2) []).map Prod.fst) = some (nI (tL 2)) := by decide +kernel
       exact congrArg (fun v => some (v, h)) (Option.some.inj e))
    | (have e : ((FJ0_length_8abf5 (1000000 + 3) []).map Prod.fst) = some (nI (tL 3)) := by decide +kernel
       exact congrArg (fun v => some (v, h)) (Option.some.inj e))
    | (have e : ((FJ0_length_8abf5 (1000000 + 4) []).map Prod.fst) = some (nI (tL 4)) := by decide +kernel
       exact congrArg (fun v => some (v, h)) (Option.some.inj e))
    | (have e : ((FJ0_length_8abf5 (1000000 + 5) []).map Prod.fst) = some (nI (tL 5)) := by decide +kernel
       exact congrArg (fun v => some (v, h)) (Option.some.inj e))
    | (have e : ((FJ0_length_8abf5 (1000000 + 6) []).map Prod.fst) = some (nI (tL 6)) := by decide +kernel
       exact congrArg (fun v => some (v, h)) (Option.some.inj e))
    | (have e : ((FJ0_length_8abf5 (1000000 + 7) []).map Prod.fst) = some (nI (tL 7)) := by decide +kernel
       exact congrArg (fun v => some (v, h)) (Option.some.inj e))
    | (have e : ((FJ0_length_8abf5 (1000000 + 8) []).map Prod.fst) = some (nI (tL 8)) := by decide +kernel
       exact congrArg (fun v => some (v, h)) (Option.some.inj e))
    | (have e : ((FJ0_length_8abf5 (1000000 + 9) []).map Prod.fst) = some (nI (tL 9)) := by decide +kernel
       exact congrArg (fun v => some (v, h)) (Option.some.inj e))
theorem b_tG {β : Type} {j : Nat} (hj : j < 10) (k : Unit → qP β) (h : qH) : qb (tG (1000000 + j)) k h = k () h := by
  refine qb_of (r := ((), h)) ?_
  unfold tG; rw [if_pos (by omega)]
set_option maxRecDepth 100000 in
theorem tch (h : qH) : ∀ j, j < 10 → ∀ i, i < tL j → FJ0_charAt_5068e (1000000 + j) (nI i) h = some (nI (tC j i), h) := by
  intro j hj i hi
  rcases (show j = 0 ∨ j = 1 ∨ j = 2 ∨ j = 3 ∨ j = 4 ∨ j = 5 ∨ j = 6 ∨ j = 7 ∨ j = 8 ∨ j = 9 by omega) with rfl | rfl | rfl | rfl | rfl | rfl | rfl | rfl | rfl | rfl
  · have hi : i < 4 := hi
    rcases (show i = 0 ∨ i = 1 ∨ i = 2 ∨ i = 3 by omega) with rfl | rfl | rfl | rfl
    · have e : ((FJ0_charAt_5068e (1000000 + 0) (nI 0) []).map Prod.fst) = some (nI (tC 0 0)) := by decide +kernel
      exact congrArg (fun v => some (v, h)) (Option.some.inj e)
    · have e : ((FJ0_charAt_5068e (1000000 + 0) (nI 1) []).map Prod.fst) = some (nI (tC 0 1)) := by decide +kernel
      exact congrArg (fun v => some (v, h)) (Option.some.inj e)
    · have e : ((FJ0_charAt_5068e (1000000 + 0) (nI 2) []).map Prod.fst) = some (nI (tC 0 2)) := by decide +kernel
      exact congrArg (fun v => some (v, h)) (Option.some.inj e)
    · have e : ((FJ0_charAt_5068e (1000000 + 0) (nI 3) []).map Prod.fst) = some (nI (tC 0 3)) := by decide +kernel
      exact congrArg (fun v => some (v, h)) (Option.some.inj e)
  · have hi : i < 5 := hi
    rcases (show i = 0 ∨ i = 1 ∨ i = 2 ∨ i = 3 ∨ i = 4 by omega) with rfl | rfl | rfl | rfl | rfl
    · have e : ((FJ0_charAt_5068e (1000000 + 1) (nI 0) []).map Prod.fst) = some (nI (tC 1 0)) := by decide +kernel
      exact congrArg (fun v => some (v, h)) (Option.some.inj e)
    · have e : ((FJ0_charAt_5068e (1000000 + 1) (nI 1) []).map Prod.fst) = some (nI (tC 1 1)) := by decide +kernel
      exact congrArg (fun v => some (v, h)) (Option.some.inj e)
    · have e : ((FJ0_charAt_5068e (1000000 + 1) (nI 2) []).map Prod.fst) = some (nI (tC 1 2)) := by decide +kernel
      exact congrArg (fun v => some (v, h)) (Option.some.inj e)
    · have e : ((FJ0_charAt_5068e (1000000 + 1) (nI 3) []).map Prod.fst) = some (nI (tC 1 3)) := by decide +kernel
      exact congrArg (fun v => some (v, h)) (Option.some.inj e)
    · have e : ((FJ0_charAt_5068e (1000000 + 1) (nI 4) []).map Prod.fst) = some (nI (tC 1 4)) := by decide +kernel
      exact congrArg (fun v => some (v, h)) (Option.some.inj e)
  · have hi : i < 6 := hi
    rcases (show i = 0 ∨ i = 1 ∨ i = 2 ∨ i = 3 ∨ i = 4 ∨ i = 5 by omega) with rfl | rfl | rfl | rfl | rfl | rfl
    · have e : ((FJ0_charAt_5068e (1000000 + 2) (nI 0) []).map Prod.fst) = some (nI (tC 2 0)) := by decide +kernel
      exact congrArg (fun v => some (v, h)) (Option.some.inj e)
    · have e : ((FJ0_charAt_5068e (1000000 + 2) (nI 1) []).map Prod.fst) = some (nI (tC 2 1)) := by decide +kernel
      exact congrArg (fun v => some (v, h)) (Option.some.inj e)
    · have e : ((FJ0_charAt_5068e (1000000 + 2) (nI 2) []).map Prod.fst) = some (nI (tC 2 2)) := by decide +kernel
      exact congrArg (fun v => some (v, h)) (Option.some.inj e)
    · have e : ((FJ0_charAt_5068e (1000000 + 2) (nI 3) []).map Prod.fst) = some (nI (tC 2 3)) := by decide +kernel
      exact congrArg (fun v => some (v, h)) (Option.some.inj e)
    · have e : ((FJ0_charAt_5068e (1000000 + 2) (nI 4) []).map Prod.fst) = some (nI (tC 2 4)) := by decide +kernel
      exact congrArg (fun v => some (v, h)) (Option.some.inj e)
    · have e : ((FJ0_charAt_5068e (1000000 + 2) (nI 5) []).map Prod.fst) = some (nI (tC 2 5)) := by decide +kernel
      exact congrArg (fun v => some (v, h)) (Option.some.inj e)
  · have hi : i < 5 := hi
    rcases (show i = 0 ∨ i = 1 ∨ i = 2 ∨ i = 3 ∨ i = 4 by omega) with rfl | rfl | rfl | rfl | rfl
    · have e : ((FJ0_charAt_5068e (1000000 + 3) (nI 0) []).map Prod.fst) = some (nI (tC 3 0)) := by decide +kernel
      exact congrArg (fun v => some (v, h)) (Option.some.inj e)
    · have e : ((FJ0_charAt_5068e (1000000 + 3) (nI 1) []).map Prod.fst) = some (nI (tC 3 1)) := by decide +kernel
      exact congrArg (fun v => some (v, h)) (Option.some.inj e)
    · have e : ((FJ0_charAt_5068e (1000000 + 3) (nI 2) []).map Prod.fst) = some (nI (tC 3 2)) := by decide +kernel
      exact congrArg (fun v => some (v, h)) (Option.some.inj e)
    · have e : ((FJ0_charAt_5068e (1000000 + 3) (nI 3) []).map Prod.fst) = some (nI (tC 3 3)) := by decide +kernel
      exact congrArg (fun v => some (v, h)) (Option.some.inj e)
    · have e : ((FJ0_charAt_5068e (1000000 + 3) (nI 4) []).map Prod.fst) = some (nI (tC 3 4)) := by decide +kernel
      exact congrArg (fun v => some (v, h)) (Option.some.inj e)
  · have hi : i < 3 := hi
    rcases (show i = 0 ∨ i = 1 ∨ i = 2 by omega) with rfl | rfl | rfl
    · have e : ((FJ0_charAt_5068e (1000000 + 4) (nI 0) []).map Prod.fst) = some (nI (tC 4 0)) := by decide +kernel
      exact congrArg (fun v => some (v, h)) (Option.some.inj e)
    · have e : ((FJ0_charAt_5068e (1000000 + 4) (nI 1) []).map Prod.fst) = some (nI (tC 4 1)) := by decide +kernel
      exact congrArg (fun v => some (v, h)) (Option.some.inj e)
    · have e : ((FJ0_charAt_5068e (1000000 + 4) (nI 2) []).map Prod.fst) = some (nI (tC 4 2)) := by decide +kernel
      exact congrArg (fun v => some (v, h)) (Option.some.inj e)
  · have hi : i < 3 := hi
    rcases (show i = 0 ∨ i = 1 ∨ i = 2 by omega) with rfl | rfl | rfl
    · have e : ((FJ0_charAt_5068e (1000000 + 5) (nI 0) []).map Prod.fst) = some (nI (tC 5 0)) := by decide +kernel
      exact congrArg (fun v => some (v, h)) (Option.some.inj e)
    · have e : ((FJ0_charAt_5068e (1000000 + 5) (nI 1) []).map Prod.fst) = some (nI (tC 5 1)) := by decide +kernel
      exact congrArg (fun v => some (v, h)) (Option.some.inj e)
    · have e : ((FJ0_charAt_5068e (1000000 + 5) (nI 2) []).map Prod.fst) = some (nI (tC 5 2)) := by decide +kernel
      exact congrArg (fun v => some (v, h)) (Option.some.inj e)
  · have hi : i < 3 := hi
    rcases (show i = 0 ∨ i = 1 ∨ i = 2 by omega) with rfl | rfl | rfl
    · have e : ((FJ0_charAt_5068e (1000000 + 6) (nI 0) []).map Prod.fst) = some (nI (tC 6 0)) := by decide +kernel
      exact congrArg (fun v => some (v, h)) (Option.some.inj e)
    · have e : ((FJ0_charAt_5068e (1000000 + 6) (nI 1) []).map Prod.fst) = some (nI (tC 6 1)) := by decide +kernel
      exact congrArg (fun v => some (v, h)) (Option.some.inj e)
    · have e : ((FJ0_charAt_5068e (1000000 + 6) (nI 2) []).map Prod.fst) = some (nI (tC 6 2)) := by decide +kernel
      exact congrArg (fun v => some (v, h)) (Option.some.inj e)
  · have hi : i < 3 := hi
    rcases (show i = 0 ∨ i = 1 ∨ i = 2 by omega) with rfl | rfl | rfl
    · have e : ((FJ0_charAt_5068e (1000000 + 7) (nI 0) []).map Prod.fst) = some (nI (tC 7 0)) := by decide +kernel
      exact congrArg (fun v => some (v, h)) (Option.some.inj e)
    · have e : ((FJ0_charAt_5068e (1000000 + 7) (nI 1) []).map Prod.fst) = some (nI (tC 7 1)) := by decide +kernel
      exact congrArg (fun v => some (v, h)) (Option.some.inj e)
    · have e : ((FJ0_charAt_5068e (1000000 + 7) (nI 2) []).map Prod.fst) = some (nI (tC 7 2)) := by decide +kernel
      exact congrArg (fun v => some (v, h)) (Option.some.inj e)
  · have hi : i < 2 := hi
    rcases (show i = 0 ∨ i = 1 by omega) with rfl | rfl
    · have e : ((FJ0_charAt_5068e (1000000 + 8) (nI 0) []).map Prod.fst) = some (nI (tC 8 0)) := by decide +kernel
      exact congrArg (fun v => some (v, h)) (Option.some.inj e)
    · have e : ((FJ0_charAt_5068e (1000000 + 8) (nI 1) []).map Prod.fst) = some (nI (tC 8 1)) := by decide +kernel
      exact congrArg (fun v => some (v, h)) (Option.some.inj e)
  · have hi : i < 2 := hi
    rcases (show i = 0 ∨ i = 1 by omega) with rfl | rfl
    · have e : ((FJ0_charAt_5068e (1000000 + 9) (nI 0) []).map Prod.fst) = some (nI (tC 9 0)) := by decide +kernel
      exact congrArg (fun v => some (v, h)) (Option.some.inj e)
    · have e : ((FJ0_charAt_5068e (1000000 + 9) (nI 1) []).map Prod.fst) = some (nI (tC 9 1)) := by decide +kernel
      exact congrArg (fun v => some (v, h)) (Option.some.inj e)
/-- a name is spelled -/
def splB (tb : Nat → Nat) (s e j : Nat) : Bool := decide (e - s = tL j ∧ ∀ i, i < tL j → tb (s + i) = tC j i)
theorem splB_i {tb : Nat → Nat} {s e j : Nat} : splB tb s e j = true ↔ (e - s = tL j ∧ ∀ i, i < tL j → tb (s + i) = tC j i) := decide_eq_true_iff
def vbT (tb : Nat → Nat) (s e : Nat) : Nat → Nat → Option Nat
  | 0, _ => none
  | d + 1, k => if splB tb s e k = true then some k else vbT tb s e d (k + 1)
theorem vbT_lt {tb : Nat → Nat} {s e : Nat} : ∀ d k v, vbT tb s e d k = some v → k ≤ v ∧ v < k + d := by
  intro d
  induction d with
  | zero => intro k v h; cases h
  | succ d ih =>
    intro k v h
    change (if splB tb s e k = true then some k else vbT tb s e d (k + 1)) = some v at h
    split at h
    · cases h; omega
    · have := ih (k + 1) v h; omega
section VB
variable {tb : Nat → Nat} {u : Nat} (B : eB) (f : Nat → Option Nat) (n : Nat)
theorem tC_lt : ∀ j, j < 10 → ∀ i, i < 6 → tC j i < 256 := by decide
theorem tL_lt : ∀ j, j < 10 → tL j ≤ 6 := by decide
set_option maxRecDepth 100000 in
set_option maxHeartbeats 4000000 in
theorem w_it20 {A : eA} (hx : txC A u tb) {s e j : Nat} (hj : j < 10) (hes : e - s = tL j) (he : e ≤ u) (h3 : A 59 3 = nI s) (hse : s ≤ e) : ∀ (d k N : Nat), k + d = tL j → d < N → (∀ i, i < k → tb (s + i) = tC j i) → WX3_isTaken_20 N 59 (1000000 + j) (nI k) (enc A B f n) = some (nI (if splB tb s e j = true then 1 else 0), enc A B f n) := by
  obtain ⟨t1, t2, t3, t4⟩ := hx
  have hl := tln (enc A B f n) j hj
  have hL := tL_lt j hj
  intro d
  induction d with
  | zero =>
    intro k N hk hN hp
    obtain ⟨N, rfl⟩ : ∃ M, N = M + 1 := ⟨N - 1, by omega⟩
    have hs : splB tb s e j = true := splB_i.mpr ⟨hes, fun i hi => hp i (by omega)⟩
    rw [if_pos hs]
    show UX3_isTaken_20 (WX3_isTaken_20 N) 59 (1000000 + j) (nI k) (enc A B f n) = _
    unfold UX3_isTaken_20
    rw [b_tG hj, qb_of hl]
    simp (disch := omega) only [↓qb_as, ↓qb_it, ↓qi_ap, ↓reduceIte, ↓qb_qr, ↓qr_ap, ↓qb_gd, ↓gd_ap, ↓qb_so, eu_ap, up_ap, er_ap, eB_ap, uL_ap, ltT, ltF, leT, leF, eqT, eqF, nltT, nltF, nleT, nleF, neqT, neqF, clN, nI_add, pk_mul, pk_sub, divN, remN, lLT, lLF, toL, eq_self, and_self, or_self, or_false, false_or, or_true, true_or, and_true, true_and, and_false, false_and, not_true_eq_false, not_false_eq_true, if_true, if_false, ite_true, ite_false, Nat.reduceAdd, Nat.reduceMul, Nat.reduceSub, Nat.reduceDiv, Nat.reduceMod, Nat.reducePow, Nat.reduceEqDiff, Nat.reduceLT, li_0, li_1, li_2, li_3, li_4, li_5, li_6, li_7, li_8, li_9, li_10, li_11, li_12, li_13, li_15, li_16, li_20, li_25, li_26, li_27, li_29, li_30, li_31, li_32, li_43, li_46, li_48, li_49, li_57, li_59, li_60, li_63, li_89, li_93, li_97, li_99, li_100, li_108, li_110, li_120, li_122, li_125, li_129, li_133, li_200, li_253, li_1000, lo_0, lo_1, lo_10, lo_109103333, lo_12, lo_12343, lo_13, lo_17382886, lo_2, lo_20, lo_20194900, lo_25, lo_255, lo_27, lo_3, lo_31, lo_32, lo_4, lo_4153, lo_5, lo_537076, lo_6, lo_7, lo_8, lo_821, lo_9, lo_97, lo_99, ↓b_cl_59, ↓b_g_59_0, ↓b_g_59_1, ↓b_p_59_1, ↓b_g_59_2, ↓b_p_59_2, ↓b_g_59_3, ↓b_p_59_3, ↓b_g_59_4, ↓b_p_59_4, ↓b_g_59_5, ↓b_p_59_5, ↓b_g_59_6, ↓b_p_59_6, ↓b_g_59_7, ↓b_p_59_7, ↓b_g_59_8, ↓b_p_59_8, ↓b_g_59_9, ↓b_p_59_9, ↓b_g_59_10, ↓b_p_59_10, ↓b_g_59_11, ↓b_p_59_11, ↓b_a_60, ↓b_s_60, ↓b_l_60]
  | succ d ih =>
    intro k N hk hN hp
    obtain ⟨N, rfl⟩ : ∃ M, N = M + 1 := ⟨N - 1, by omega⟩
    have hc := tch (enc A B f n) j hj k (by omega)
    have hcl := tC_lt j hj k (by omega)
    have b1 := t3 (s + k) (by omega)
    have b2 := t4 (s + k) (by omega)
    have bg := fun k => b_tG (β := Int32) hj k (enc A B f n)
    show UX3_isTaken_20 (WX3_isTaken_20 N) 59 (1000000 + j) (nI k) (enc A B f n) = _
    unfold UX3_isTaken_20
    rw [bg, qb_of hl]
    by_cases q : tb (s + k) = tC j k
    · have h := ih (k + 1) N (by omega) (by omega) (fun i hi => by
        by_cases q2 : i = k
        · subst q2; exact q
        · exact hp i (by omega))
      rw [← h]
      simp (disch := omega) only [↓qb_as, ↓qb_it, ↓qi_ap, ↓reduceIte, ↓qb_qr, ↓qr_ap, ↓qb_gd, ↓gd_ap, ↓qb_so, eu_ap, up_ap, er_ap, eB_ap, uL_ap, ltT, ltF, leT, leF, eqT, eqF, nltT, nltF, nleT, nleF, neqT, neqF, clN, nI_add, pk_mul, pk_sub, divN, remN, lLT, lLF, toL, eq_self, and_self, or_self, or_false, false_or, or_true, true_or, and_true, true_and, and_false, false_and, not_true_eq_false, not_false_eq_true, if_true, if_false, ite_true, ite_false, Nat.reduceAdd, Nat.reduceMul, Nat.reduceSub, Nat.reduceDiv, Nat.reduceMod, Nat.reducePow, Nat.reduceEqDiff, Nat.reduceLT, li_0, li_1, li_2, li_3, li_4, li_5, li_6, li_7, li_8, li_9, li_10, li_11, li_12, li_13, li_15, li_16, li_20, li_25, li_26, li_27, li_29, li_30, li_31, li_32, li_43, li_46, li_48, li_49, li_57, li_59, li_60, li_63, li_89, li_93, li_97, li_99, li_100, li_108, li_110, li_120, li_122, li_125, li_129, li_133, li_200, li_253, li_1000, lo_0, lo_1, lo_10, lo_109103333, lo_12, lo_12343, lo_13, lo_17382886, lo_2, lo_20, lo_20194900, lo_25, lo_255, lo_27, lo_3, lo_31, lo_32, lo_4, lo_4153, lo_5, lo_537076, lo_6, lo_7, lo_8, lo_821, lo_9, lo_97, lo_99, ↓b_cl_59, ↓b_g_59_0, ↓b_g_59_1, ↓b_p_59_1, ↓b_g_59_2, ↓b_p_59_2, ↓b_g_59_3, ↓b_p_59_3, ↓b_g_59_4, ↓b_p_59_4, ↓b_g_59_5, ↓b_p_59_5, ↓b_g_59_6, ↓b_p_59_6, ↓b_g_59_7, ↓b_p_59_7, ↓b_g_59_8, ↓b_p_59_8, ↓b_g_59_9, ↓b_p_59_9, ↓b_g_59_10, ↓b_p_59_10, ↓b_g_59_11, ↓b_p_59_11, ↓b_a_60, ↓b_s_60, ↓b_l_60, h3, b1, ↓bg, ↓qb_of hc]
    · have hs : ¬ splB tb s e j = true := fun h => q ((splB_i.mp h).2 k (by omega))
      rw [if_neg hs]
      simp (disch := omega) only [↓qb_as, ↓qb_it, ↓qi_ap, ↓reduceIte, ↓qb_qr, ↓qr_ap, ↓qb_gd, ↓gd_ap, ↓qb_so, eu_ap, up_ap, er_ap, eB_ap, uL_ap, ltT, ltF, leT, leF, eqT, eqF, nltT, nltF, nleT, nleF, neqT, neqF, clN, nI_add, pk_mul, pk_sub, divN, remN, lLT, lLF, toL, eq_self, and_self, or_self, or_false, false_or, or_true, true_or, and_true, true_and, and_false, false_and, not_true_eq_false, not_false_eq_true, if_true, if_false, ite_true, ite_false, Nat.reduceAdd, Nat.reduceMul, Nat.reduceSub, Nat.reduceDiv, Nat.reduceMod, Nat.reducePow, Nat.reduceEqDiff, Nat.reduceLT, li_0, li_1, li_2, li_3, li_4, li_5, li_6, li_7, li_8, li_9, li_10, li_11, li_12, li_13, li_15, li_16, li_20, li_25, li_26, li_27, li_29, li_30, li_31, li_32, li_43, li_46, li_48, li_49, li_57, li_59, li_60, li_63, li_89, li_93, li_97, li_99, li_100, li_108, li_110, li_120, li_122, li_125, li_129, li_133, li_200, li_253, li_1000, lo_0, lo_1, lo_10, lo_109103333, lo_12, lo_12343, lo_13, lo_17382886, lo_2, lo_20, lo_20194900, lo_25, lo_255, lo_27, lo_3, lo_31, lo_32, lo_4, lo_4153, lo_5, lo_537076, lo_6, lo_7, lo_8, lo_821, lo_9, lo_97, lo_99, ↓b_cl_59, ↓b_g_59_0, ↓b_g_59_1, ↓b_p_59_1, ↓b_g_59_2, ↓b_p_59_2, ↓b_g_59_3, ↓b_p_59_3, ↓b_g_59_4, ↓b_p_59_4, ↓b_g_59_5, ↓b_p_59_5, ↓b_g_59_6, ↓b_p_59_6, ↓b_g_59_7, ↓b_p_59_7, ↓b_g_59_8, ↓b_p_59_8, ↓b_g_59_9, ↓b_p_59_9, ↓b_g_59_10, ↓b_p_59_10, ↓b_g_59_11, ↓b_p_59_11, ↓b_a_60, ↓b_s_60, ↓b_l_60, h3, b1, ↓bg, ↓qb_of hc]
theorem x_it {A : eA} (hx : txC A u tb) {s e j : Nat} (hj : j < 10) (he : e ≤ u) (hse : s ≤ e) (h2 : A 59 2 = nI e) (h3 : A 59 3 = nI s) : FX3_isTaken 59 (1000000 + j) (enc A B f n) = some (nI (if splB tb s e j = true then 1 else 0), enc A B f n) := by
  have hl := tln (enc A B f n) j hj
  have hL := tL_lt j hj
  have hu := hx.2.1
  have bg := fun k => b_tG (β := Int32) hj k (enc A B f n)
  by_cases q : e - s = tL j
  · have h := w_it20 B f n hx hj q he h3 hse (tL j) 0 1000000 (by omega) (by omega) (fun i hi => by omega)
    rw [← h]
    simp (disch := omega) only [FX3_isTaken, ↓qb_as, ↓qb_it, ↓qi_ap, ↓reduceIte, ↓qb_qr, ↓qr_ap, ↓qb_gd, ↓gd_ap, ↓qb_so, eu_ap, up_ap, er_ap, eB_ap, uL_ap, ltT, ltF, leT, leF, eqT, eqF, nltT, nltF, nleT, nleF, neqT, neqF, clN, nI_add, pk_mul, pk_sub, divN, remN, lLT, lLF, toL, eq_self, and_self, or_self, or_false, false_or, or_true, true_or, and_true, true_and, and_false, false_and, not_true_eq_false, not_false_eq_true, if_true, if_false, ite_true, ite_false, Nat.reduceAdd, Nat.reduceMul, Nat.reduceSub, Nat.reduceDiv, Nat.reduceMod, Nat.reducePow, Nat.reduceEqDiff, Nat.reduceLT, li_0, li_1, li_2, li_3, li_4, li_5, li_6, li_7, li_8, li_9, li_10, li_11, li_12, li_13, li_15, li_16, li_20, li_25, li_26, li_27, li_29, li_30, li_31, li_32, li_43, li_46, li_48, li_49, li_57, li_59, li_60, li_63, li_89, li_93, li_97, li_99, li_100, li_108, li_110, li_120, li_122, li_125, li_129, li_133, li_200, li_253, li_1000, lo_0, lo_1, lo_10, lo_109103333, lo_12, lo_12343, lo_13, lo_17382886, lo_2, lo_20, lo_20194900, lo_25, lo_255, lo_27, lo_3, lo_31, lo_32, lo_4, lo_4153, lo_5, lo_537076, lo_6, lo_7, lo_8, lo_821, lo_9, lo_97, lo_99, ↓b_cl_59, ↓b_g_59_0, ↓b_g_59_1, ↓b_p_59_1, ↓b_g_59_2, ↓b_p_59_2, ↓b_g_59_3, ↓b_p_59_3, ↓b_g_59_4, ↓b_p_59_4, ↓b_g_59_5, ↓b_p_59_5, ↓b_g_59_6, ↓b_p_59_6, ↓b_g_59_7, ↓b_p_59_7, ↓b_g_59_8, ↓b_p_59_8, ↓b_g_59_9, ↓b_p_59_9, ↓b_g_59_10, ↓b_p_59_10, ↓b_g_59_11, ↓b_p_59_11, ↓b_a_60, ↓b_s_60, ↓b_l_60, h2, h3, ↓bg, ↓qb_of hl]
  · have hs : ¬ splB tb s e j = true := fun h => q (splB_i.mp h).1
    rw [if_neg hs]
    simp (disch := omega) only [FX3_isTaken, ↓qb_as, ↓qb_it, ↓qi_ap, ↓reduceIte, ↓qb_qr, ↓qr_ap, ↓qb_gd, ↓gd_ap, ↓qb_so, eu_ap, up_ap, er_ap, eB_ap, uL_ap, ltT, ltF, leT, leF, eqT, eqF, nltT, nltF, nleT, nleF, neqT, neqF, clN, nI_add, pk_mul, pk_sub, divN, remN, lLT, lLF, toL, eq_self, and_self, or_self, or_false, false_or, or_true, true_or, and_true, true_and, and_false, false_and, not_true_eq_false, not_false_eq_true, if_true, if_false, ite_true, ite_false, Nat.reduceAdd, Nat.reduceMul, Nat.reduceSub, Nat.reduceDiv, Nat.reduceMod, Nat.reducePow, Nat.reduceEqDiff, Nat.reduceLT, li_0, li_1, li_2, li_3, li_4, li_5, li_6, li_7, li_8, li_9, li_10, li_11, li_12, li_13, li_15, li_16, li_20, li_25, li_26, li_27, li_29, li_30, li_31, li_32, li_43, li_46, li_48, li_49, li_57, li_59, li_60, li_63, li_89, li_93, li_97, li_99, li_100, li_108, li_110, li_120, li_122, li_125, li_129, li_133, li_200, li_253, li_1000, lo_0, lo_1, lo_10, lo_109103333, lo_12, lo_12343, lo_13, lo_17382886, lo_2, lo_20, lo_20194900, lo_25, lo_255, lo_27, lo_3, lo_31, lo_32, lo_4, lo_4153, lo_5, lo_537076, lo_6, lo_7, lo_8, lo_821, lo_9, lo_97, lo_99, ↓b_cl_59, ↓b_g_59_0, ↓b_g_59_1, ↓b_p_59_1, ↓b_g_59_2, ↓b_p_59_2, ↓b_g_59_3, ↓b_p_59_3, ↓b_g_59_4, ↓b_p_59_4, ↓b_g_59_5, ↓b_p_59_5, ↓b_g_59_6, ↓b_p_59_6, ↓b_g_59_7, ↓b_p_59_7, ↓b_g_59_8, ↓b_p_59_8, ↓b_g_59_9, ↓b_p_59_9, ↓b_g_59_10, ↓b_p_59_10, ↓b_g_59_11, ↓b_p_59_11, ↓b_a_60, ↓b_s_60, ↓b_l_60, h2, h3, ↓bg, ↓qb_of hl]
theorem x_name {β : Type} {j : Nat} (hj : j < 6) (K : Nat → qP β) (h : qH) : qb (FX3_name (nI j)) K h = K (1000000 + j) h := by
  unfold FX3_name
  rcases (show j = 0 ∨ j = 1 ∨ j = 2 ∨ j = 3 ∨ j = 4 ∨ j = 5 by omega) with rfl | rfl | rfl | rfl | rfl | rfl <;> simp (disch := omega) only [↓qb_as, ↓qb_it, ↓qi_ap, ↓reduceIte, ↓qb_qr, ↓qr_ap, ↓qb_gd, ↓gd_ap, ↓qb_so, eu_ap, up_ap, er_ap, eB_ap, uL_ap, ltT, ltF, leT, leF, eqT, eqF, nltT, nltF, nleT, nleF, neqT, neqF, clN, nI_add, pk_mul, pk_sub, divN, remN, lLT, lLF, toL, eq_self, and_self, or_self, or_false, false_or, or_true, true_or, and_true, true_and, and_false, false_and, not_true_eq_false, not_false_eq_true, if_true, if_false, ite_true, ite_false, Nat.reduceAdd, Nat.reduceMul, Nat.reduceSub, Nat.reduceDiv, Nat.reduceMod, Nat.reducePow, Nat.reduceEqDiff, Nat.reduceLT, li_0, li_1, li_2, li_3, li_4, li_5, li_6, li_7, li_8, li_9, li_10, li_11, li_12, li_13, li_15, li_16, li_20, li_25, li_26, li_27, li_29, li_30, li_31, li_32, li_43, li_46, li_48, li_49, li_57, li_59, li_60, li_63, li_89, li_93, li_97, li_99, li_100, li_108, li_110, li_120, li_122, li_125, li_129, li_133, li_200, li_253, li_1000, lo_0, lo_1, lo_10, lo_109103333, lo_12, lo_12343, lo_13, lo_17382886, lo_2, lo_20, lo_20194900, lo_25, lo_255, lo_27, lo_3, lo_31, lo_32, lo_4, lo_4153, lo_5, lo_537076, lo_6, lo_7, lo_8, lo_821, lo_9, lo_97, lo_99]
set_option maxRecDepth 100000 in
set_option maxHeartbeats 4000000 in
theorem w_in2 {A : eA} (hx : txC A u tb) {s e : Nat} (he : e ≤ u) (hse : s ≤ e) (h2 : A 59 2 = nI e) (h3 : A 59 3 = nI s) : ∀ (d k N : Nat), k + d = 6 → d < N → WX3_itemNamed_2 N 59 (nI k) (enc A B f n) = some (opI (vbT tb s e d k), enc A B f n) := by
  intro d
  induction d with
  | zero =>
    intro k N hk hN
    obtain ⟨N, rfl⟩ : ∃ M, N = M + 1 := ⟨N - 1, by omega⟩
    show UX3_itemNamed_2 (WX3_itemNamed_2 N) 59 (nI k) (enc A B f n) = _
    simp (disch := omega) only [UX3_itemNamed_2, ↓qb_as, ↓qb_it, ↓qi_ap, ↓reduceIte, ↓qb_qr, ↓qr_ap, ↓qb_gd, ↓gd_ap, ↓qb_so, eu_ap, up_ap, er_ap, eB_ap, uL_ap, ltT, ltF, leT, leF, eqT, eqF, nltT, nltF, nleT, nleF, neqT, neqF, clN, nI_add, pk_mul, pk_sub, divN, remN, lLT, lLF, toL, eq_self, and_self, or_self, or_false, false_or, or_true, true_or, and_true, true_and, and_false, false_and, not_true_eq_false, not_false_eq_true, if_true, if_false, ite_true, ite_false, Nat.reduceAdd, Nat.reduceMul, Nat.reduceSub, Nat.reduceDiv, Nat.reduceMod, Nat.reducePow, Nat.reduceEqDiff, Nat.reduceLT, li_0, li_1, li_2, li_3, li_4, li_5, li_6, li_7, li_8, li_9, li_10, li_11, li_12, li_13, li_15, li_16, li_20, li_25, li_26, li_27, li_29, li_30, li_31, li_32, li_43, li_46, li_48, li_49, li_57, li_59, li_60, li_63, li_89, li_93, li_97, li_99, li_100, li_108, li_110, li_120, li_122, li_125, li_129, li_133, li_200, li_253, li_1000, lo_0, lo_1, lo_10, lo_109103333, lo_12, lo_12343, lo_13, lo_17382886, lo_2, lo_20, lo_20194900, lo_25, lo_255, lo_27, lo_3, lo_31, lo_32, lo_4, lo_4153, lo_5, lo_537076, lo_6, lo_7, lo_8, lo_821, lo_9, lo_97, lo_99, ↓b_cl_59, ↓b_g_59_0, ↓b_g_59_1, ↓b_p_59_1, ↓b_g_59_2, ↓b_p_59_2, ↓b_g_59_3, ↓b_p_59_3, ↓b_g_59_4, ↓b_p_59_4, ↓b_g_59_5, ↓b_p_59_5, ↓b_g_59_6, ↓b_p_59_6, ↓b_g_59_7, ↓b_p_59_7, ↓b_g_59_8, ↓b_p_59_8, ↓b_g_59_9, ↓b_p_59_9, ↓b_g_59_10, ↓b_p_59_10, ↓b_g_59_11, ↓b_p_59_11, ↓b_a_60, ↓b_s_60, ↓b_l_60]
    rfl
  | succ d ih =>
    intro k N hk hN
    obtain ⟨N, rfl⟩ : ∃ M, N = M + 1 := ⟨N - 1, by omega⟩
    have h := ih (k + 1) N (by omega) (by omega)
    have hit := x_it B f n hx (j := k) (by omega) he hse h2 h3
    have hnm := fun K => x_name (β := Int32) (j := k) (by omega) K (enc A B f n)
    have ev : vbT tb s e (d + 1) k = if splB tb s e k = true then some k else vbT tb s e d (k + 1) := rfl
    rw [ev]
    show UX3_itemNamed_2 (WX3_itemNamed_2 N) 59 (nI k) (enc A B f n) = _
    by_cases q : splB tb s e k = true
    · rw [if_pos q] at hit ⊢
      simp (disch := omega) only [UX3_itemNamed_2, ↓qb_as, ↓qb_it, ↓qi_ap, ↓reduceIte, ↓qb_qr, ↓qr_ap, ↓qb_gd, ↓gd_ap, ↓qb_so, eu_ap, up_ap, er_ap, eB_ap, uL_ap, ltT, ltF, leT, leF, eqT, eqF, nltT, nltF, nleT, nleF, neqT, neqF, clN, nI_add, pk_mul, pk_sub, divN, remN, lLT, lLF, toL, eq_self, and_self, or_self, or_false, false_or, or_true, true_or, and_true, true_and, and_false, false_and, not_true_eq_false, not_false_eq_true, if_true, if_false, ite_true, ite_false, Nat.reduceAdd, Nat.reduceMul, Nat.reduceSub, Nat.reduceDiv, Nat.reduceMod, Nat.reducePow, Nat.reduceEqDiff, Nat.reduceLT, li_0, li_1, li_2, li_3, li_4, li_5, li_6, li_7, li_8, li_9, li_10, li_11, li_12, li_13, li_15, li_16, li_20, li_25, li_26, li_27, li_29, li_30, li_31, li_32, li_43, li_46, li_48, li_49, li_57, li_59, li_60, li_63, li_89, li_93, li_97, li_99, li_100, li_108, li_110, li_120, li_122, li_125, li_129, li_133, li_200, li_253, li_1000, lo_0, lo_1, lo_10, lo_109103333, lo_12, lo_12343, lo_13, lo_17382886, lo_2, lo_20, lo_20194900, lo_25, lo_255, lo_27, lo_3, lo_31, lo_32, lo_4, lo_4153, lo_5, lo_537076, lo_6, lo_7, lo_8, lo_821, lo_9, lo_97, lo_99, ↓b_cl_59, ↓b_g_59_0, ↓b_g_59_1, ↓b_p_59_1, ↓b_g_59_2, ↓b_p_59_2, ↓b_g_59_3, ↓b_p_59_3, ↓b_g_59_4, ↓b_p_59_4, ↓b_g_59_5, ↓b_p_59_5, ↓b_g_59_6, ↓b_p_59_6, ↓b_g_59_7, ↓b_p_59_7, ↓b_g_59_8, ↓b_p_59_8, ↓b_g_59_9, ↓b_p_59_9, ↓b_g_59_10, ↓b_p_59_10, ↓b_g_59_11, ↓b_p_59_11, ↓b_a_60, ↓b_s_60, ↓b_l_60, ↓hnm, ↓qb_of hit]
      rfl
    · rw [if_neg q] at hit ⊢
      simp (disch := omega) only [UX3_itemNamed_2, ↓qb_as, ↓qb_it, ↓qi_ap, ↓reduceIte, ↓qb_qr, ↓qr_ap, ↓qb_gd, ↓gd_ap, ↓qb_so, eu_ap, up_ap, er_ap, eB_ap, uL_ap, ltT, ltF, leT, leF, eqT, eqF, nltT, nltF, nleT, nleF, neqT, neqF, clN, nI_add, pk_mul, pk_sub, divN, remN, lLT, lLF, toL, eq_self, and_self, or_self, or_false, false_or, or_true, true_or, and_true, true_and, and_false, false_and, not_true_eq_false, not_false_eq_true, if_true, if_false, ite_true, ite_false, Nat.reduceAdd, Nat.reduceMul, Nat.reduceSub, Nat.reduceDiv, Nat.reduceMod, Nat.reducePow, Nat.reduceEqDiff, Nat.reduceLT, li_0, li_1, li_2, li_3, li_4, li_5, li_6, li_7, li_8, li_9, li_10, li_11, li_12, li_13, li_15, li_16, li_20, li_25, li_26, li_27, li_29, li_30, li_31, li_32, li_43, li_46, li_48, li_49, li_57, li_59, li_60, li_63, li_89, li_93, li_97, li_99, li_100, li_108, li_110, li_120, li_122, li_125, li_129, li_133, li_200, li_253, li_1000, lo_0, lo_1, lo_10, lo_109103333, lo_12, lo_12343, lo_13, lo_17382886, lo_2, lo_20, lo_20194900, lo_25, lo_255, lo_27, lo_3, lo_31, lo_32, lo_4, lo_4153, lo_5, lo_537076, lo_6, lo_7, lo_8, lo_821, lo_9, lo_97, lo_99, ↓b_cl_59, ↓b_g_59_0, ↓b_g_59_1, ↓b_p_59_1, ↓b_g_59_2, ↓b_p_59_2, ↓b_g_59_3, ↓b_p_59_3, ↓b_g_59_4, ↓b_p_59_4, ↓b_g_59_5, ↓b_p_59_5, ↓b_g_59_6, ↓b_p_59_6, ↓b_g_59_7, ↓b_p_59_7, ↓b_g_59_8, ↓b_p_59_8, ↓b_g_59_9, ↓b_p_59_9, ↓b_g_59_10, ↓b_p_59_10, ↓b_g_59_11, ↓b_p_59_11, ↓b_a_60, ↓b_s_60, ↓b_l_60, ↓hnm, ↓qb_of hit]
      exact h
theorem x_in {A : eA} (hx : txC A u tb) {s e : Nat} (he : e ≤ u) (hse : s ≤ e) (h2 : A 59 2 = nI e) (h3 : A 59 3 = nI s) : FX3_itemNamed 59 (enc A B f n) = some (opI (vbT tb s e 6 0), enc A B f n) := w_in2 B f n hx he hse h2 h3 6 0 1000000 (by omega) (by omega)
end VB
/-! the reference's numbers of the names -/
def hsN (j : Nat) : Nat := [537076, 20194900, 109103333, 17382886, 12343, 4153].getD j 0
theorem hs_0 {tb : Nat → Nat} {s m : Nat} (hm : m ≤ 6) (hl : ∀ i, i < m → 97 ≤ tb (s + i) ∧ tb (s + i) ≤ 122) : hsT tb s m = 537076 ↔ (m = 4 ∧ ∀ i, i < 4 → tb (s + i) = tC 0 i) := by
  rcases (show m = 0 ∨ m = 1 ∨ m = 2 ∨ m = 3 ∨ m = 4 ∨ m = 5 ∨ m = 6 by omega) with rfl | rfl | rfl | rfl | rfl | rfl | rfl
  · have eh : hsT tb s 0 = 0 := rfl
    rw [eh]
    exact ⟨fun h => by omega, fun h => by omega⟩
  · have c0 := hl 0 (by omega)
    have eh : hsT tb s 1 = 32 * (0) + (tb (s + 0) - 96) := rfl
    rw [eh]
    exact ⟨fun h => by omega, fun h => by omega⟩
  · have c0 := hl 0 (by omega)
    have c1 := hl 1 (by omega)
    have eh : hsT tb s 2 = 32 * (32 * (0) + (tb (s + 0) - 96)) + (tb (s + 1) - 96) := rfl
    rw [eh]
    exact ⟨fun h => by omega, fun h => by omega⟩
  · have c0 := hl 0 (by omega)
    have c1 := hl 1 (by omega)
    have c2 := hl 2 (by omega)
    have eh : hsT tb s 3 = 32 * (32 * (32 * (0) + (tb (s + 0) - 96)) + (tb (s + 1) - 96)) + (tb (s + 2) - 96) := rfl
    rw [eh]
    exact ⟨fun h => by omega, fun h => by omega⟩
  · have c0 := hl 0 (by omega)
    have c1 := hl 1 (by omega)
    have c2 := hl 2 (by omega)
    have c3 := hl 3 (by omega)
    have eh : hsT tb s 4 = 32 * (32 * (32 * (32 * (0) + (tb (s + 0) - 96)) + (tb (s + 1) - 96)) + (tb (s + 2) - 96)) + (tb (s + 3) - 96) := rfl
    rw [eh]
    refine ⟨fun h => ⟨rfl, fun i hi => ?_⟩, fun h => ?_⟩
    · rcases (show i = 0 ∨ i = 1 ∨ i = 2 ∨ i = 3 by omega) with rfl | rfl | rfl | rfl
      · show tb (s + 0) = 112; omega
      · show tb (s + 1) = 108; omega
      · show tb (s + 2) = 111; omega
      · show tb (s + 3) = 116; omega
    · have d0 : tb (s + 0) = 112 := h.2 0 (by omega)
      have d1 : tb (s + 1) = 108 := h.2 1 (by omega)
      have d2 : tb (s + 2) = 111 := h.2 2 (by omega)
      have d3 : tb (s + 3) = 116 := h.2 3 (by omega)
      omega
  · have c0 := hl 0 (by omega)
    have c1 := hl 1 (by omega)
    have c2 := hl 2 (by omega)
    have c3 := hl 3 (by omega)
    have c4 := hl 4 (by omega)
    have eh : hsT tb s 5 = 32 * (32 * (32 * (32 * (32 * (0) + (tb (s + 0) - 96)) + (tb (s + 1) - 96)) + (tb (s + 2) - 96)) + (tb (s + 3) - 96)) + (tb (s + 4) - 96) := rfl
    rw [eh]
    exact ⟨fun h => by omega, fun h => by omega⟩
  · have c0 := hl 0 (by omega)
    have c1 := hl 1 (by omega)
    have c2 := hl 2 (by omega)
    have c3 := hl 3 (by omega)
    have c4 := hl 4 (by omega)
    have c5 := hl 5 (by omega)
    have eh : hsT tb s 6 = 32 * (32 * (32 * (32 * (32 * (32 * (0) + (tb (s + 0) - 96)) + (tb (s + 1) - 96)) + (tb (s + 2) - 96)) + (tb (s + 3) - 96)) + (tb (s + 4) - 96)) + (tb (s + 5) - 96) := rfl
    rw [eh]
    exact ⟨fun h => by omega, fun h => by omega⟩
theorem hs_1 {tb : Nat → Nat} {s m : Nat} (hm : m ≤ 6) (hl : ∀ i, i < m → 97 ≤ tb (s + i) ∧ tb (s + i) ≤ 122) : hsT tb s m = 20194900 ↔ (m = 5 ∧ ∀ i, i < 5 → tb (s + i) = tC 1 i) := by
  rcases (show m = 0 ∨ m = 1 ∨ m = 2 ∨ m = 3 ∨ m = 4 ∨ m = 5 ∨ m = 6 by omega) with rfl | rfl | rfl | rfl | rfl | rfl | rfl
  · have eh : hsT tb s 0 = 0 := rfl
    rw [eh]
    exact ⟨fun h => by omega, fun h => by omega⟩
  · have c0 := hl 0 (by omega)
    have eh : hsT tb s 1 = 32 * (0) + (tb (s + 0) - 96) := rfl
    rw [eh]
    exact ⟨fun h => by omega, fun h => by omega⟩
  · have c0 := hl 0 (by omega)
    have c1 := hl 1 (by omega)
    have eh : hsT tb s 2 = 32 * (32 * (0) + (tb (s + 0) - 96)) + (tb (s + 1) - 96) := rfl
    rw [eh]
    exact ⟨fun h => by omega, fun h => by omega⟩
  · have c0 := hl 0 (by omega)
    have c1 := hl 1 (by omega)
    have c2 := hl 2 (by omega)
    have eh : hsT tb s 3 = 32 * (32 * (32 * (0) + (tb (s + 0) - 96)) + (tb (s + 1) - 96)) + (tb (s + 2) - 96) := rfl
    rw [eh]
    exact ⟨fun h => by omega, fun h => by omega⟩
  · have c0 := hl 0 (by omega)
    have c1 := hl 1 (by omega)
    have c2 := hl 2 (by omega)
    have c3 := hl 3 (by omega)
    have eh : hsT tb s 4 = 32 * (32 * (32 * (32 * (0) + (tb (s + 0) - 96)) + (tb (s + 1) - 96)) + (tb (s + 2) - 96)) + (tb (s + 3) - 96) := rfl
    rw [eh]
    exact ⟨fun h => by omega, fun h => by omega⟩
  · have c0 := hl 0 (by omega)
    have c1 := hl 1 (by omega)
    have c2 := hl 2 (by omega)
    have c3 := hl 3 (by omega)
    have c4 := hl 4 (by omega)
    have eh : hsT tb s 5 = 32 * (32 * (32 * (32 * (32 * (0) + (tb (s + 0) - 96)) + (tb (s + 1) - 96)) + (tb (s + 2) - 96)) + (tb (s + 3) - 96)) + (tb (s + 4) - 96) := rfl
    rw [eh]
    refine ⟨fun h => ⟨rfl, fun i hi => ?_⟩, fun h => ?_⟩
    · rcases (show i = 0 ∨ i = 1 ∨ i = 2 ∨ i = 3 ∨ i = 4 by omega) with rfl | rfl | rfl | rfl | rfl
      · show tb (s + 0) = 115; omega
      · show tb (s + 1) = 104; omega
      · show tb (s + 2) = 105; omega
      · show tb (s + 3) = 114; omega
      · show tb (s + 4) = 116; omega
    · have d0 : tb (s + 0) = 115 := h.2 0 (by omega)
      have d1 : tb (s + 1) = 104 := h.2 1 (by omega)
      have d2 : tb (s + 2) = 105 := h.2 2 (by omega)
      have d3 : tb (s + 3) = 114 := h.2 3 (by omega)
      have d4 : tb (s + 4) = 116 := h.2 4 (by omega)
      omega
  · have c0 := hl 0 (by omega)
    have c1 := hl 1 (by omega)
    have c2 := hl 2 (by omega)
    have c3 := hl 3 (by omega)
    have c4 := hl 4 (by omega)
    have c5 := hl 5 (by omega)
    have eh : hsT tb s 6 = 32 * (32 * (32 * (32 * (32 * (32 * (0) + (tb (s + 0) - 96)) + (tb (s + 1) - 96)) + (tb (s + 2) - 96)) + (tb (s + 3) - 96)) + (tb (s + 4) - 96)) + (tb (s + 5) - 96) := rfl
    rw [eh]
    exact ⟨fun h => by omega, fun h => by omega⟩
theorem hs_2 {tb : Nat → Nat} {s m : Nat} (hm : m ≤ 6) (hl : ∀ i, i < m → 97 ≤ tb (s + i) ∧ tb (s + i) ≤ 122) : hsT tb s m = 109103333 ↔ (m = 6 ∧ ∀ i, i < 6 → tb (s + i) = tC 2 i) := by
  rcases (show m = 0 ∨ m = 1 ∨ m = 2 ∨ m = 3 ∨ m = 4 ∨ m = 5 ∨ m = 6 by omega) with rfl | rfl | rfl | rfl | rfl | rfl | rfl
  · have eh : hsT tb s 0 = 0 := rfl
    rw [eh]
    exact ⟨fun h => by omega, fun h => by omega⟩
  · have c0 := hl 0 (by omega)
    have eh : hsT tb s 1 = 32 * (0) + (tb (s + 0) - 96) := rfl
    rw [eh]
    exact ⟨fun h => by omega, fun h => by omega⟩
  · have c0 := hl 0 (by omega)
    have c1 := hl 1 (by omega)
    have eh : hsT tb s 2 = 32 * (32 * (0) + (tb (s + 0) - 96)) + (tb (s + 1) - 96) := rfl
    rw [eh]
    exact ⟨fun h => by omega, fun h => by omega⟩
  · have c0 := hl 0 (by omega)
    have c1 := hl 1 (by omega)
    have c2 := hl 2 (by omega)
    have eh : hsT tb s 3 = 32 * (32 * (32 * (0) + (tb (s + 0) - 96)) + (tb (s + 1) - 96)) + (tb (s + 2) - 96) := rfl
    rw [eh]
    exact ⟨fun h => by omega, fun h => by omega⟩
  · have c0 := hl 0 (by omega)
    have c1 := hl 1 (by omega)
    have c2 := hl 2 (by omega)
    have c3 := hl 3 (by omega)
    have eh : hsT tb s 4 = 32 * (32 * (32 * (32 * (0) + (tb (s + 0) - 96)) + (tb (s + 1) - 96)) + (tb (s + 2) - 96)) + (tb (s + 3) - 96) := rfl
    rw [eh]
    exact ⟨fun h => by omega, fun h => by omega⟩
  · have c0 := hl 0 (by omega)
    have c1 := hl 1 (by omega)
    have c2 := hl 2 (by omega)
    have c3 := hl 3 (by omega)
    have c4 := hl 4 (by omega)
    have eh : hsT tb s 5 = 32 * (32 * (32 * (32 * (32 * (0) + (tb (s + 0) - 96)) + (tb (s + 1) - 96)) + (tb (s + 2) - 96)) + (tb (s + 3) - 96)) + (tb (s + 4) - 96) := rfl
    rw [eh]
    exact ⟨fun h => by omega, fun h => by omega⟩
  · have c0 := hl 0 (by omega)
    have c1 := hl 1 (by omega)
    have c2 := hl 2 (by omega)
    have c3 := hl 3 (by omega)
    have c4 := hl 4 (by omega)
    have c5 := hl 5 (by omega)
    have eh : hsT tb s 6 = 32 * (32 * (32 * (32 * (32 * (32 * (0) + (tb (s + 0) - 96)) + (tb (s + 1) - 96)) + (tb (s + 2) - 96)) + (tb (s + 3) - 96)) + (tb (s + 4) - 96)) + (tb (s + 5) - 96) := rfl
    rw [eh]
    refine ⟨fun h => ⟨rfl, fun i hi => ?_⟩, fun h => ?_⟩
    · rcases (show i = 0 ∨ i = 1 ∨ i = 2 ∨ i = 3 ∨ i = 4 ∨ i = 5 by omega) with rfl | rfl | rfl | rfl | rfl | rfl
      · show tb (s + 0) = 99; omega
      · show tb (s + 1) = 104; omega
      · show tb (s + 2) = 97; omega
      · show tb (s + 3) = 114; omega
      · show tb (s + 4) = 103; omega
      · show tb (s + 5) = 101; omega
    · have d0 : tb (s + 0) = 99 := h.2 0 (by omega)
      have d1 : tb (s + 1) = 104 := h.2 1 (by omega)
      have d2 : tb (s + 2) = 97 := h.2 2 (by omega)
      have d3 : tb (s + 3) = 114 := h.2 3 (by omega)
      have d4 : tb (s + 4) = 103 := h.2 4 (by omega)
      have d5 : tb (s + 5) = 101 := h.2 5 (by omega)
      omega
theorem hs_3 {tb : Nat → Nat} {s m : Nat} (hm : m ≤ 6) (hl : ∀ i, i < m → 97 ≤ tb (s + i) ∧ tb (s + i) ≤ 122) : hsT tb s m = 17382886 ↔ (m = 5 ∧ ∀ i, i < 5 → tb (s + i) = tC 3 i) := by
  rcases (show m = 0 ∨ m = 1 ∨ m = 2 ∨ m = 3 ∨ m = 4 ∨ m = 5 ∨ m = 6 by omega) with rfl | rfl | rfl | rfl | rfl | rfl | rfl
  · have eh : hsT tb s 0 = 0 := rfl
    rw [eh]
    exact ⟨fun h => by omega, fun h => by omega⟩
  · have c0 := hl 0 (by omega)
    have eh : hsT tb s 1 = 32 * (0) + (tb (s + 0) - 96) := rfl
    rw [eh]
    exact ⟨fun h => by omega, fun h => by omega⟩
  · have c0 := hl 0 (by omega)
    have c1 := hl 1 (by omega)
    have eh : hsT tb s 2 = 32 * (32 * (0) + (tb (s + 0) - 96)) + (tb (s + 1) - 96) := rfl
    rw [eh]
    exact ⟨fun h => by omega, fun h => by omega⟩
  · have c0 := hl 0 (by omega)
    have c1 := hl 1 (by omega)
    have c2 := hl 2 (by omega)
    have eh : hsT tb s 3 = 32 * (32 * (32 * (0) + (tb (s + 0) - 96)) + (tb (s + 1) - 96)) + (tb (s + 2) - 96) := rfl
    rw [eh]
    exact ⟨fun h => by omega, fun h => by omega⟩
  · have c0 := hl 0 (by omega)
    have c1 := hl 1 (by omega)
    have c2 := hl 2 (by omega)
    have c3 := hl 3 (by omega)
    have eh : hsT tb s 4 = 32 * (32 * (32 * (32 * (0) + (tb (s + 0) - 96)) + (tb (s + 1) - 96)) + (tb (s + 2) - 96)) + (tb (s + 3) - 96) := rfl
    rw [eh]
    exact ⟨fun h => by omega, fun h => by omega⟩
  · have c0 := hl 0 (by omega)
    have c1 := hl 1 (by omega)
    have c2 := hl 2 (by omega)
    have c3 := hl 3 (by omega)
    have c4 := hl 4 (by omega)
    have eh : hsT tb s 5 = 32 * (32 * (32 * (32 * (32 * (0) + (tb (s + 0) - 96)) + (tb (s + 1) - 96)) + (tb (s + 2) - 96)) + (tb (s + 3) - 96)) + (tb (s + 4) - 96) := rfl
    rw [eh]
    refine ⟨fun h => ⟨rfl, fun i hi => ?_⟩, fun h => ?_⟩
    · rcases (show i = 0 ∨ i = 1 ∨ i = 2 ∨ i = 3 ∨ i = 4 by omega) with rfl | rfl | rfl | rfl | rfl
      · show tb (s + 0) = 112; omega
      · show tb (s + 1) = 114; omega
      · show tb (s + 2) = 111; omega
      · show tb (s + 3) = 111; omega
      · show tb (s + 4) = 102; omega
    · have d0 : tb (s + 0) = 112 := h.2 0 (by omega)
      have d1 : tb (s + 1) = 114 := h.2 1 (by omega)
      have d2 : tb (s + 2) = 111 := h.2 2 (by omega)
      have d3 : tb (s + 3) = 111 := h.2 3 (by omega)
      have d4 : tb (s + 4) = 102 := h.2 4 (by omega)
      omega
  · have c0 := hl 0 (by omega)
    have c1 := hl 1 (by omega)
    have c2 := hl 2 (by omega)
    have c3 := hl 3 (by omega)
    have c4 := hl 4 (by omega)
    have c5 := hl 5 (by omega)
    have eh : hsT tb s 6 = 32 * (32 * (32 * (32 * (32 * (32 * (0) + (tb (s + 0) - 96)) + (tb (s + 1) - 96)) + (tb (s + 2) - 96)) + (tb (s + 3) - 96)) + (tb (s + 4) - 96)) + (tb (s + 5) - 96) := rfl
    rw [eh]
    exact ⟨fun h => by omega, fun h => by omega⟩
theorem hs_4 {tb : Nat → Nat} {s m : Nat} (hm : m ≤ 6) (hl : ∀ i, i < m → 97 ≤ tb (s + i) ∧ tb (s + i) ≤ 122) : hsT tb s m = 12343 ↔ (m = 3 ∧ ∀ i, i < 3 → tb (s + i) = tC 4 i) := by
  rcases (show m = 0 ∨ m = 1 ∨ m = 2 ∨ m = 3 ∨ m = 4 ∨ m = 5 ∨ m = 6 by omega) with rfl | rfl | rfl | rfl | rfl | rfl | rfl
  · have eh : hsT tb s 0 = 0 := rfl
    rw [eh]
    exact ⟨fun h => by omega, fun h => by omega⟩
  · have c0 := hl 0 (by omega)
    have eh : hsT tb s 1 = 32 * (0) + (tb (s + 0) - 96) := rfl
    rw [eh]
    exact ⟨fun h => by omega, fun h => by omega⟩
  · have c0 := hl 0 (by omega)
    have c1 := hl 1 (by omega)
    have eh : hsT tb s 2 = 32 * (32 * (0) + (tb (s + 0) - 96)) + (tb (s + 1) - 96) := rfl
    rw [eh]
    exact ⟨fun h => by omega, fun h => by omega⟩
  · have c0 := hl 0 (by omega)
    have c1 := hl 1 (by omega)
    have c2 := hl 2 (by omega)
    have eh : hsT tb s 3 = 32 * (32 * (32 * (0) + (tb (s + 0) - 96)) + (tb (s + 1) - 96)) + (tb (s + 2) - 96) := rfl
    rw [eh]
    refine ⟨fun h => ⟨rfl, fun i hi => ?_⟩, fun h => ?_⟩
    · rcases (show i = 0 ∨ i = 1 ∨ i = 2 by omega) with rfl | rfl | rfl
      · show tb (s + 0) = 108; omega
      · show tb (s + 1) = 97; omega
      · show tb (s + 2) = 119; omega
    · have d0 : tb (s + 0) = 108 := h.2 0 (by omega)
      have d1 : tb (s + 1) = 97 := h.2 1 (by omega)
      have d2 : tb (s + 2) = 119 := h.2 2 (by omega)
      omega
  · have c0 := hl 0 (by omega)
    have c1 := hl 1 (by omega)
    have c2 := hl 2 (by omega)
    have c3 := hl 3 (by omega)
    have eh : hsT tb s 4 = 32 * (32 * (32 * (32 * (0) + (tb (s + 0) - 96)) + (tb (s + 1) - 96)) + (tb (s + 2) - 96)) + (tb (s + 3) - 96) := rfl
    rw [eh]
    exact ⟨fun h => by omega, fun h => by omega⟩
  · have c0 := hl 0 (by omega)
    have c1 := hl 1 (by omega)
    have c2 := hl 2 (by omega)
    have c3 := hl 3 (by omega)
    have c4 := hl 4 (by omega)
    have eh : hsT tb s 5 = 32 * (32 * (32 * (32 * (32 * (0) + (tb (s + 0) - 96)) + (tb (s + 1) - 96)) + (tb (s + 2) - 96)) + (tb (s + 3) - 96)) + (tb (s + 4) - 96) := rfl
    rw [eh]
    exact ⟨fun h => by omega, fun h => by omega⟩
  · have c0 := hl 0 (by omega)
    have c1 := hl 1 (by omega)
    have c2 := hl 2 (by omega)
    have c3 := hl 3 (by omega)
    have c4 := hl 4 (by omega)
    have c5 := hl 5 (by omega)
    have eh : hsT tb s 6 = 32 * (32 * (32 * (32 * (32 * (32 * (0) + (tb (s + 0) - 96)) + (tb (s + 1) - 96)) + (tb (s + 2) - 96)) + (tb (s + 3) - 96)) + (tb (s + 4) - 96)) + (tb (s + 5) - 96) := rfl
    rw [eh]
    exact ⟨fun h => by omega, fun h => by omega⟩
theorem hs_5 {tb : Nat → Nat} {s m : Nat} (hm : m ≤ 6) (hl : ∀ i, i < m → 97 ≤ tb (s + i) ∧ tb (s + i) ≤ 122) : hsT tb s m = 4153 ↔ (m = 3 ∧ ∀ i, i < 3 → tb (s + i) = tC 5 i) := by
  rcases (show m = 0 ∨ m = 1 ∨ m = 2 ∨ m = 3 ∨ m = 4 ∨ m = 5 ∨ m = 6 by omega) with rfl | rfl | rfl | rfl | rfl | rfl | rfl
  · have eh : hsT tb s 0 = 0 := rfl
    rw [eh]
    exact ⟨fun h => by omega, fun h => by omega⟩
  · have c0 := hl 0 (by omega)
    have eh : hsT tb s 1 = 32 * (0) + (tb (s + 0) - 96) := rfl
    rw [eh]
    exact ⟨fun h => by omega, fun h => by omega⟩
  · have c0 := hl 0 (by omega)
    have c1 := hl 1 (by omega)
    have eh : hsT tb s 2 = 32 * (32 * (0) + (tb (s + 0) - 96)) + (tb (s + 1) - 96) := rfl
    rw [eh]
    exact ⟨fun h => by omega, fun h => by omega⟩
  · have c0 := hl 0 (by omega)
    have c1 := hl 1 (by omega)
    have c2 := hl 2 (by omega)
    have eh : hsT tb s 3 = 32 * (32 * (32 * (0) + (tb (s + 0) - 96)) + (tb (s + 1) - 96)) + (tb (s + 2) - 96) := rfl
    rw [eh]
    refine ⟨fun h => ⟨rfl, fun i hi => ?_⟩, fun h => ?_⟩
    · rcases (show i = 0 ∨ i = 1 ∨ i = 2 by omega) with rfl | rfl | rfl
      · show tb (s + 0) = 100; omega
      · show tb (s + 1) = 97; omega
      · show tb (s + 2) = 121; omega
    · have d0 : tb (s + 0) = 100 := h.2 0 (by omega)
      have d1 : tb (s + 1) = 97 := h.2 1 (by omega)
      have d2 : tb (s + 2) = 121 := h.2 2 (by omega)
      omega
  · have c0 := hl 0 (by omega)
    have c1 := hl 1 (by omega)
    have c2 := hl 2 (by omega)
    have c3 := hl 3 (by omega)
    have eh : hsT tb s 4 = 32 * (32 * (32 * (32 * (0) + (tb (s + 0) - 96)) + (tb (s + 1) - 96)) + (tb (s + 2) - 96)) + (tb (s + 3) - 96) := rfl
    rw [eh]
    exact ⟨fun h => by omega, fun h => by omega⟩
  · have c0 := hl 0 (by omega)
    have c1 := hl 1 (by omega)
    have c2 := hl 2 (by omega)
    have c3 := hl 3 (by omega)
    have c4 := hl 4 (by omega)
    have eh : hsT tb s 5 = 32 * (32 * (32 * (32 * (32 * (0) + (tb (s + 0) - 96)) + (tb (s + 1) - 96)) + (tb (s + 2) - 96)) + (tb (s + 3) - 96)) + (tb (s + 4) - 96) := rfl
    rw [eh]
    exact ⟨fun h => by omega, fun h => by omega⟩
  · have c0 := hl 0 (by omega)
    have c1 := hl 1 (by omega)
    have c2 := hl 2 (by omega)
    have c3 := hl 3 (by omega)
    have c4 := hl 4 (by omega)
    have c5 := hl 5 (by omega)
    have eh : hsT tb s 6 = 32 * (32 * (32 * (32 * (32 * (32 * (0) + (tb (s + 0) - 96)) + (tb (s + 1) - 96)) + (tb (s + 2) - 96)) + (tb (s + 3) - 96)) + (tb (s + 4) - 96)) + (tb (s + 5) - 96) := rfl
    rw [eh]
    exact ⟨fun h => by omega, fun h => by omega⟩
theorem spl_h {tb : Nat → Nat} {s e : Nat} (hm : e - s ≤ 6) (hl : ∀ i, i < e - s → 97 ≤ tb (s + i) ∧ tb (s + i) ≤ 122) : (hsT tb s (e - s) = 537076 ↔ splB tb s e 0 = true) ∧ (hsT tb s (e - s) = 20194900 ↔ splB tb s e 1 = true) ∧ (hsT tb s (e - s) = 109103333 ↔ splB tb s e 2 = true) ∧ (hsT tb s (e - s) = 17382886 ↔ splB tb s e 3 = true) ∧ (hsT tb s (e - s) = 12343 ↔ splB tb s e 4 = true) ∧ (hsT tb s (e - s) = 4153 ↔ splB tb s e 5 = true) :=
  ⟨(hs_0 hm hl).trans (splB_i (tb := tb) (s := s) (e := e) (j := 0)).symm, (hs_1 hm hl).trans (splB_i (tb := tb) (s := s) (e := e) (j := 1)).symm, (hs_2 hm hl).trans (splB_i (tb := tb) (s := s) (e := e) (j := 2)).symm, (hs_3 hm hl).trans (splB_i (tb := tb) (s := s) (e := e) (j := 3)).symm, (hs_4 hm hl).trans (splB_i (tb := tb) (s := s) (e := e) (j := 4)).symm, (hs_5 hm hl).trans (splB_i (tb := tb) (s := s) (e := e) (j := 5)).symm⟩
theorem vb6 {tb : Nat → Nat} {s e : Nat} : vbT tb s e 6 0 = if splB tb s e 0 = true then some 0 else if splB tb s e 1 = true then some 1 else if splB tb s e 2 = true then some 2 else if splB tb s e 3 = true then some 3 else if splB tb s e 4 = true then some 4 else if splB tb s e 5 = true then some 5 else none := rfl
theorem tC_l : ∀ j, j < 6 → ∀ i, i < tL j → 97 ≤ tC j i ∧ tC j i ≤ 122 := by decide
theorem tL_6 : ∀ j, j < 6 → tL j ≤ 6 := by decide
theorem vb_no {tb : Nat → Nat} {s e : Nat} (h : 7 ≤ e - s ∨ ∃ i, s ≤ i ∧ i < e ∧ isL (tb i) = false) : vbT tb s e 6 0 = none := by
  have hn : ∀ j, j < 6 → ¬ splB tb s e j = true := fun j hj hs => by
    have hs := splB_i.mp hs
    have := tL_6 j hj
    rcases h with h | ⟨i, h1, h2, h3⟩
    · omega
    · have h4 := hs.2 (i - s) (by omega)
      have h5 := tC_l j hj (i - s) (by omega)
      rw [show s + (i - s) = i by omega] at h4
      rw [isL_i.mpr (by omega)] at h3
      cases h3
  rw [vb6, if_neg (hn 0 (by omega)), if_neg (hn 1 (by omega)), if_neg (hn 2 (by omega)), if_neg (hn 3 (by omega)), if_neg (hn 4 (by omega)), if_neg (hn 5 (by omega))]
theorem lgE0 (x y : Int64) : (lg_cmp x y = nI 0) = (x = y) := propext (lg_cmp_eq x y)
theorem y_vbN (h : qH) : FX12_verbOf (-1) h = some (-nI 1, h) := by
  have e : ((FX12_verbOf (-1) []).map Prod.fst) = some (-nI 1) := by decide +kernel
  exact congrArg (fun v => some (v, h)) (Option.some.inj e)
set_option maxHeartbeats 4000000 in
theorem y_vb {tb : Nat → Nat} {s e : Nat} (hm : e - s ≤ 6) (hl : ∀ i, i < e - s → 97 ≤ tb (s + i) ∧ tb (s + i) ≤ 122) (h : qH) : FX12_verbOf (lN (hsT tb s (e - s))) h = some (opI (vbT tb s e 6 0), h) := by
  obtain ⟨h0, h1, h2, h3, h4, h5⟩ := spl_h hm hl
  have hb := hsT_le (tb := tb) (s := s) (e - s) (fun i hi => (hl i hi).2)
  have hb2 : 32 ^ (e - s) ≤ 32 ^ 6 := Nat.pow_le_pow_right (by decide) hm
  rw [vb6]
  generalize hsT tb s (e - s) = w at *
  by_cases q0 : splB tb s e 0 = true
  · rw [if_pos q0]
    have hw := h0.mpr q0
    simp (disch := omega) only [FX12_verbOf, UX12_verbOf_37, UX12_verbOf_75, ↓qb_as, ↓qb_it, ↓qi_ap, ↓reduceIte, ↓qb_qr, ↓qr_ap, ↓qb_gd, ↓gd_ap, ↓qb_so, eu_ap, up_ap, er_ap, eB_ap, uL_ap, ltT, ltF, leT, leF, eqT, eqF, nltT, nltF, nleT, nleF, neqT, neqF, clN, nI_add, pk_mul, pk_sub, divN, remN, lLT, lLF, toL, eq_self, and_self, or_self, or_false, false_or, or_true, true_or, and_true, true_and, and_false, false_and, not_true_eq_false, not_false_eq_true, if_true, if_false, ite_true, ite_false, Nat.reduceAdd, Nat.reduceMul, Nat.reduceSub, Nat.reduceDiv, Nat.reduceMod, Nat.reducePow, Nat.reduceEqDiff, Nat.reduceLT, li_0, li_1, li_2, li_3, li_4, li_5, li_6, li_7, li_8, li_9, li_10, li_11, li_12, li_13, li_15, li_16, li_20, li_25, li_26, li_27, li_29, li_30, li_31, li_32, li_43, li_46, li_48, li_49, li_57, li_59, li_60, li_63, li_89, li_93, li_97, li_99, li_100, li_108, li_110, li_120, li_122, li_125, li_129, li_133, li_200, li_253, li_1000, lo_0, lo_1, lo_10, lo_109103333, lo_12, lo_12343, lo_13, lo_17382886, lo_2, lo_20, lo_20194900, lo_25, lo_255, lo_27, lo_3, lo_31, lo_32, lo_4, lo_4153, lo_5, lo_537076, lo_6, lo_7, lo_8, lo_821, lo_9, lo_97, lo_99, lgE0, lET, lEF, eqM, eqMM, opI]
  rw [if_neg q0]
  have n0 : w ≠ 537076 := fun e => q0 (h0.mp e)
  by_cases q1 : splB tb s e 1 = true
  · rw [if_pos q1]
    have hw := h1.mpr q1
    simp (disch := omega) only [FX12_verbOf, UX12_verbOf_37, UX12_verbOf_75, ↓qb_as, ↓qb_it, ↓qi_ap, ↓reduceIte, ↓qb_qr, ↓qr_ap, ↓qb_gd, ↓gd_ap, ↓qb_so, eu_ap, up_ap, er_ap, eB_ap, uL_ap, ltT, ltF, leT, leF, eqT, eqF, nltT, nltF, nleT, nleF, neqT, neqF, clN, nI_add, pk_mul, pk_sub, divN, remN, lLT, lLF, toL, eq_self, and_self, or_self, or_false, false_or, or_true, true_or, and_true, true_and, and_false, false_and, not_true_eq_false, not_false_eq_true, if_true, if_false, ite_true, ite_false, Nat.reduceAdd, Nat.reduceMul, Nat.reduceSub, Nat.reduceDiv, Nat.reduceMod, Nat.reducePow, Nat.reduceEqDiff, Nat.reduceLT, li_0, li_1, li_2, li_3, li_4, li_5, li_6, li_7, li_8, li_9, li_10, li_11, li_12, li_13, li_15, li_16, li_20, li_25, li_26, li_27, li_29, li_30, li_31, li_32, li_43, li_46, li_48, li_49, li_57, li_59, li_60, li_63, li_89, li_93, li_97, li_99, li_100, li_108, li_110, li_120, li_122, li_125, li_129, li_133, li_200, li_253, li_1000, lo_0, lo_1, lo_10, lo_109103333, lo_12, lo_12343, lo_13, lo_17382886, lo_2, lo_20, lo_20194900, lo_25, lo_255, lo_27, lo_3, lo_31, lo_32, lo_4, lo_4153, lo_5, lo_537076, lo_6, lo_7, lo_8, lo_821, lo_9, lo_97, lo_99, lgE0, lET, lEF, eqM, eqMM, opI]
  rw [if_neg q1]
  have n1 : w ≠ 20194900 := fun e => q1 (h1.mp e)
  by_cases q2 : splB tb s e 2 = true
  · rw [if_pos q2]
    have hw := h2.mpr q2
    simp (disch := omega) only [FX12_verbOf, UX12_verbOf_37, UX12_verbOf_75, ↓qb_as, ↓qb_it, ↓qi_ap, ↓reduceIte, ↓qb_qr, ↓qr_ap, ↓qb_gd, ↓gd_ap, ↓qb_so, eu_ap, up_ap, er_ap, eB_ap, uL_ap, ltT, ltF, leT, leF, eqT, eqF, nltT, nltF, nleT, nleF, neqT, neqF, clN, nI_add, pk_mul, pk_sub, divN, remN, lLT, lLF, toL, eq_self, and_self, or_self, or_false, false_or, or_true, true_or, and_true, true_and, and_false, false_and, not_true_eq_false, not_false_eq_true, if_true, if_false, ite_true, ite_false, Nat.reduceAdd, Nat.reduceMul, Nat.reduceSub, Nat.reduceDiv, Nat.reduceMod, Nat.reducePow, Nat.reduceEqDiff, Nat.reduceLT, li_0, li_1, li_2, li_3, li_4, li_5, li_6, li_7, li_8, li_9, li_10, li_11, li_12, li_13, li_15, li_16, li_20, li_25, li_26, li_27, li_29, li_30, li_31, li_32, li_43, li_46, li_48, li_49, li_57, li_59, li_60, li_63, li_89, li_93, li_97, li_99, li_100, li_108, li_110, li_120, li_122, li_125, li_129, li_133, li_200, li_253, li_1000, lo_0, lo_1, lo_10, lo_109103333, lo_12, lo_12343, lo_13, lo_17382886, lo_2, lo_20, lo_20194900, lo_25, lo_255, lo_27, lo_3, lo_31, lo_32, lo_4, lo_4153, lo_5, lo_537076, lo_6, lo_7, lo_8, lo_821, lo_9, lo_97, lo_99, lgE0, lET, lEF, eqM, eqMM, opI]
  rw [if_neg q2]
  have n2 : w ≠ 109103333 := fun e => q2 (h2.mp e)
  by_cases q3 : splB tb s e 3 = true
  · rw [if_pos q3]
    have hw := h3.mpr q3
    simp (disch := omega) only [FX12_verbOf, UX12_verbOf_37, UX12_verbOf_75, ↓qb_as, ↓qb_it, ↓qi_ap, ↓reduceIte, ↓qb_qr, ↓qr_ap, ↓qb_gd, ↓gd_ap, ↓qb_so, eu_ap, up_ap, er_ap, eB_ap, uL_ap, ltT, ltF, leT, leF, eqT, eqF, nltT, nltF, nleT, nleF, neqT, neqF, clN, nI_add, pk_mul, pk_sub, divN, remN, lLT, lLF, toL, eq_self, and_self, or_self, or_false, false_or, or_true, true_or, and_true, true_and, and_false, false_and, not_true_eq_false, not_false_eq_true, if_true, if_false, ite_true, ite_false, Nat.reduceAdd, Nat.reduceMul, Nat.reduceSub, Nat.reduceDiv, Nat.reduceMod, Nat.reducePow, Nat.reduceEqDiff, Nat.reduceLT, li_0, li_1, li_2, li_3, li_4, li_5, li_6, li_7, li_8, li_9, li_10, li_11, li_12, li_13, li_15, li_16, li_20, li_25, li_26, li_27, li_29, li_30, li_31, li_32, li_43, li_46, li_48, li_49, li_57, li_59, li_60, li_63, li_89, li_93, li_97, li_99, li_100, li_108, li_110, li_120, li_122, li_125, li_129, li_133, li_200, li_253, li_1000, lo_0, lo_1, lo_10, lo_109103333, lo_12, lo_12343, lo_13, lo_17382886, lo_2, lo_20, lo_20194900, lo_25, lo_255, lo_27, lo_3, lo_31, lo_32, lo_4, lo_4153, lo_5, lo_537076, lo_6, lo_7, lo_8, lo_821, lo_9, lo_97, lo_99, lgE0, lET, lEF, eqM, eqMM, opI]
  rw [if_neg q3]
  have n3 : w ≠ 17382886 := fun e => q3 (h3.mp e)
  by_cases q4 : splB tb s e 4 = true
  · rw [if_pos q4]
    have hw := h4.mpr q4
    simp (disch := omega) only [FX12_verbOf, UX12_verbOf_37, UX12_verbOf_75, ↓qb_as, ↓qb_it, ↓qi_ap, ↓reduceIte, ↓qb_qr, ↓qr_ap, ↓qb_gd, ↓gd_ap, ↓qb_so, eu_ap, up_ap, er_ap, eB_ap, uL_ap, ltT, ltF, leT, leF, eqT, eqF, nltT, nltF, nleT, nleF, neqT, neqF, clN, nI_add, pk_mul, pk_sub, divN, remN, lLT, lLF, toL, eq_self, and_self, or_self, or_false, false_or, or_true, true_or, and_true, true_and, and_false, false_and, not_true_eq_false, not_false_eq_true, if_true, if_false, ite_true, ite_false, Nat.reduceAdd, Nat.reduceMul, Nat.reduceSub, Nat.reduceDiv, Nat.reduceMod, Nat.reducePow, Nat.reduceEqDiff, Nat.reduceLT, li_0, li_1, li_2, li_3, li_4, li_5, li_6, li_7, li_8, li_9, li_10, li_11, li_12, li_13, li_15, li_16, li_20, li_25, li_26, li_27, li_29, li_30, li_31, li_32, li_43, li_46, li_48, li_49, li_57, li_59, li_60, li_63, li_89, li_93, li_97, li_99, li_100, li_108, li_110, li_120, li_122, li_125, li_129, li_133, li_200, li_253, li_1000, lo_0, lo_1, lo_10, lo_109103333, lo_12, lo_12343, lo_13, lo_17382886, lo_2, lo_20, lo_20194900, lo_25, lo_255, lo_27, lo_3, lo_31, lo_32, lo_4, lo_4153, lo_5, lo_537076, lo_6, lo_7, lo_8, lo_821, lo_9, lo_97, lo_99, lgE0, lET, lEF, eqM, eqMM, opI]
  rw [if_neg q4]
  have n4 : w ≠ 12343 := fun e => q4 (h4.mp e)
  by_cases q5 : splB tb s e 5 = true
  · rw [if_pos q5]
    have hw := h5.mpr q5
    simp (disch := omega) only [FX12_verbOf, UX12_verbOf_37, UX12_verbOf_75, ↓qb_as, ↓qb_it, ↓qi_ap, ↓reduceIte, ↓qb_qr, ↓qr_ap, ↓qb_gd, ↓gd_ap, ↓qb_so, eu_ap, up_ap, er_ap, eB_ap, uL_ap, ltT, ltF, leT, leF, eqT, eqF, nltT, nltF, nleT, nleF, neqT, neqF, clN, nI_add, pk_mul, pk_sub, divN, remN, lLT, lLF, toL, eq_self, and_self, or_self, or_false, false_or, or_true, true_or, and_true, true_and, and_false, false_and, not_true_eq_false, not_false_eq_true, if_true, if_false, ite_true, ite_false, Nat.reduceAdd, Nat.reduceMul, Nat.reduceSub, Nat.reduceDiv, Nat.reduceMod, Nat.reducePow, Nat.reduceEqDiff, Nat.reduceLT, li_0, li_1, li_2, li_3, li_4, li_5, li_6, li_7, li_8, li_9, li_10, li_11, li_12, li_13, li_15, li_16, li_20, li_25, li_26, li_27, li_29, li_30, li_31, li_32, li_43, li_46, li_48, li_49, li_57, li_59, li_60, li_63, li_89, li_93, li_97, li_99, li_100, li_108, li_110, li_120, li_122, li_125, li_129, li_133, li_200, li_253, li_1000, lo_0, lo_1, lo_10, lo_109103333, lo_12, lo_12343, lo_13, lo_17382886, lo_2, lo_20, lo_20194900, lo_25, lo_255, lo_27, lo_3, lo_31, lo_32, lo_4, lo_4153, lo_5, lo_537076, lo_6, lo_7, lo_8, lo_821, lo_9, lo_97, lo_99, lgE0, lET, lEF, eqM, eqMM, opI]
  rw [if_neg q5]
  have n5 : w ≠ 4153 := fun e => q5 (h5.mp e)
  simp (disch := omega) only [FX12_verbOf, UX12_verbOf_37, UX12_verbOf_75, ↓qb_as, ↓qb_it, ↓qi_ap, ↓reduceIte, ↓qb_qr, ↓qr_ap, ↓qb_gd, ↓gd_ap, ↓qb_so, eu_ap, up_ap, er_ap, eB_ap, uL_ap, ltT, ltF, leT, leF, eqT, eqF, nltT, nltF, nleT, nleF, neqT, neqF, clN, nI_add, pk_mul, pk_sub, divN, remN, lLT, lLF, toL, eq_self, and_self, or_self, or_false, false_or, or_true, true_or, and_true, true_and, and_false, false_and, not_true_eq_false, not_false_eq_true, if_true, if_false, ite_true, ite_false, Nat.reduceAdd, Nat.reduceMul, Nat.reduceSub, Nat.reduceDiv, Nat.reduceMod, Nat.reducePow, Nat.reduceEqDiff, Nat.reduceLT, li_0, li_1, li_2, li_3, li_4, li_5, li_6, li_7, li_8, li_9, li_10, li_11, li_12, li_13, li_15, li_16, li_20, li_25, li_26, li_27, li_29, li_30, li_31, li_32, li_43, li_46, li_48, li_49, li_57, li_59, li_60, li_63, li_89, li_93, li_97, li_99, li_100, li_108, li_110, li_120, li_122, li_125, li_129, li_133, li_200, li_253, li_1000, lo_0, lo_1, lo_10, lo_109103333, lo_12, lo_12343, lo_13, lo_17382886, lo_2, lo_20, lo_20194900, lo_25, lo_255, lo_27, lo_3, lo_31, lo_32, lo_4, lo_4153, lo_5, lo_537076, lo_6, lo_7, lo_8, lo_821, lo_9, lo_97, lo_99, lgE0, lET, lEF, eqM, eqMM, opI]

/-! the bounds go on -/
set_option maxHeartbeats 1000000 in
theorem sok_plot {t : Nat} {S : eS} (hs : sok t S) {a c : Nat} (ha : a < 6) (hc : c ≤ 20) (hp : S 0 0 < 3) : sok t (sPlot S a c) := by
  obtain ⟨z0, z1, z2, z3, z4, z5, z6, z7, ⟨n0, n1, n2, n3, n4⟩, z9, z10, z11, z12, z13⟩ := hs
  refine ⟨?_, ?_, ?_, ?_, ?_, ?_, ?_, ?_, ⟨?_, ?_, ?_, ?_, ?_⟩, ?_, ?_, ?_, ?_, ?_⟩
  · simp (disch := omega) only [su_ap, Nat.reduceAdd, Nat.reduceMul, Nat.reduceSub, Nat.reduceDiv, Nat.reduceMod, Nat.reducePow, Nat.reduceEqDiff, Nat.reduceLT, ↓reduceIte, eq_self, and_self, and_true, true_and, and_false, false_and, if_true, if_false, ite_true, ite_false, sPlot, neqT, neqF]; try omega
  · simp (disch := omega) only [su_ap, Nat.reduceAdd, Nat.reduceMul, Nat.reduceSub, Nat.reduceDiv, Nat.reduceMod, Nat.reducePow, Nat.reduceEqDiff, Nat.reduceLT, ↓reduceIte, eq_self, and_self, and_true, true_and, and_false, false_and, if_true, if_false, ite_true, ite_false, sPlot, neqT, neqF]; try omega
  · simp (disch := omega) only [su_ap, Nat.reduceAdd, Nat.reduceMul, Nat.reduceSub, Nat.reduceDiv, Nat.reduceMod, Nat.reducePow, Nat.reduceEqDiff, Nat.reduceLT, ↓reduceIte, eq_self, and_self, and_true, true_and, and_false, false_and, if_true, if_false, ite_true, ite_false, sPlot, neqT, neqF]; try omega
  · simp (disch := omega) only [su_ap, Nat.reduceAdd, Nat.reduceMul, Nat.reduceSub, Nat.reduceDiv, Nat.reduceMod, Nat.reducePow, Nat.reduceEqDiff, Nat.reduceLT, ↓reduceIte, eq_self, and_self, and_true, true_and, and_false, false_and, if_true, if_false, ite_true, ite_false, sPlot, neqT, neqF]; try omega
  · simp (disch := omega) only [su_ap, Nat.reduceAdd, Nat.reduceMul, Nat.reduceSub, Nat.reduceDiv, Nat.reduceMod, Nat.reducePow, Nat.reduceEqDiff, Nat.reduceLT, ↓reduceIte, eq_self, and_self, and_true, true_and, and_false, false_and, if_true, if_false, ite_true, ite_false, sPlot, neqT, neqF]; try omega
  · simp (disch := omega) only [su_ap, Nat.reduceAdd, Nat.reduceMul, Nat.reduceSub, Nat.reduceDiv, Nat.reduceMod, Nat.reducePow, Nat.reduceEqDiff, Nat.reduceLT, ↓reduceIte, eq_self, and_self, and_true, true_and, and_false, false_and, if_true, if_false, ite_true, ite_false, sPlot, neqT, neqF]; try omega
  · intro j hj
    simp only [su_ap, Nat.reduceAdd, Nat.reduceMul, Nat.reduceSub, Nat.reduceDiv, Nat.reduceMod, Nat.reducePow, Nat.reduceEqDiff, Nat.reduceLT, ↓reduceIte, eq_self, and_self, and_true, true_and, and_false, false_and, if_true, if_false, ite_true, ite_false, sPlot] at hj
    try simp only [su_ap, Nat.reduceAdd, Nat.reduceMul, Nat.reduceSub, Nat.reduceDiv, Nat.reduceMod, Nat.reducePow, Nat.reduceEqDiff, Nat.reduceLT, ↓reduceIte, eq_self, and_self, and_true, true_and, and_false, false_and, if_true, if_false, ite_true, ite_false, sPlot]
    by_cases q : j = S 0 0
    · try subst q
      try simp only [su_ap, Nat.reduceAdd, Nat.reduceMul, Nat.reduceSub, Nat.reduceDiv, Nat.reduceMod, Nat.reducePow, Nat.reduceEqDiff, Nat.reduceLT, ↓reduceIte, eq_self, and_self, and_true, true_and, and_false, false_and, if_true, if_false, ite_true, ite_false, sPlot]
      first
        | omega
        | (have w := z6 _ (by omega); omega)
        | (have w := z6 _ (by omega); simp (disch := omega) only [su_ap, Nat.reduceAdd, Nat.reduceMul, Nat.reduceSub, Nat.reduceDiv, Nat.reduceMod, Nat.reducePow, Nat.reduceEqDiff, Nat.reduceLT, ↓reduceIte, eq_self, and_self, and_true, true_and, and_false, false_and, if_true, if_false, ite_true, ite_false, sPlot, neqT, neqF]; omega)
        | (simp (disch := omega) only [su_ap, Nat.reduceAdd, Nat.reduceMul, Nat.reduceSub, Nat.reduceDiv, Nat.reduceMod, Nat.reducePow, Nat.reduceEqDiff, Nat.reduceLT, ↓reduceIte, eq_self, and_self, and_true, true_and, and_false, false_and, if_true, if_false, ite_true, ite_false, sPlot, neqT, neqF]; omega)
    · try simp (disch := omega) only [su_ap, Nat.reduceAdd, Nat.reduceMul, Nat.reduceSub, Nat.reduceDiv, Nat.reduceMod, Nat.reducePow, Nat.reduceEqDiff, Nat.reduceLT, ↓reduceIte, eq_self, and_self, and_true, true_and, and_false, false_and, if_true, if_false, ite_true, ite_false, sPlot, neqT, neqF]
      first
        | omega
        | (have w := z6 j (by omega); omega)
  · intro j hj
    simp only [su_ap, Nat.reduceAdd, Nat.reduceMul, Nat.reduceSub, Nat.reduceDiv, Nat.reduceMod, Nat.reducePow, Nat.reduceEqDiff, Nat.reduceLT, ↓reduceIte, eq_self, and_self, and_true, true_and, and_false, false_and, if_true, if_false, ite_true, ite_false, sPlot] at hj
    try simp only [su_ap, Nat.reduceAdd, Nat.reduceMul, Nat.reduceSub, Nat.reduceDiv, Nat.reduceMod, Nat.reducePow, Nat.reduceEqDiff, Nat.reduceLT, ↓reduceIte, eq_self, and_self, and_true, true_and, and_false, false_and, if_true, if_false, ite_true, ite_false, sPlot]
    by_cases q : j = S 0 0
    · try subst q
      try simp only [su_ap, Nat.reduceAdd, Nat.reduceMul, Nat.reduceSub, Nat.reduceDiv, Nat.reduceMod, Nat.reducePow, Nat.reduceEqDiff, Nat.reduceLT, ↓reduceIte, eq_self, and_self, and_true, true_and, and_false, false_and, if_true, if_false, ite_true, ite_false, sPlot]
      first
        | omega
        | (have w := z7 _ (by omega); omega)
        | (have w := z7 _ (by omega); simp (disch := omega) only [su_ap, Nat.reduceAdd, Nat.reduceMul, Nat.reduceSub, Nat.reduceDiv, Nat.reduceMod, Nat.reducePow, Nat.reduceEqDiff, Nat.reduceLT, ↓reduceIte, eq_self, and_self, and_true, true_and, and_false, false_and, if_true, if_false, ite_true, ite_false, sPlot, neqT, neqF]; omega)
        | (simp (disch := omega) only [su_ap, Nat.reduceAdd, Nat.reduceMul, Nat.reduceSub, Nat.reduceDiv, Nat.reduceMod, Nat.reducePow, Nat.reduceEqDiff, Nat.reduceLT, ↓reduceIte, eq_self, and_self, and_true, true_and, and_false, false_and, if_true, if_false, ite_true, ite_false, sPlot, neqT, neqF]; omega)
    · try simp (disch := omega) only [su_ap, Nat.reduceAdd, Nat.reduceMul, Nat.reduceSub, Nat.reduceDiv, Nat.reduceMod, Nat.reducePow, Nat.reduceEqDiff, Nat.reduceLT, ↓reduceIte, eq_self, and_self, and_true, true_and, and_false, false_and, if_true, if_false, ite_true, ite_false, sPlot, neqT, neqF]
      first
        | omega
        | (have w := z7 j (by omega); omega)
  · simp (disch := omega) only [su_ap, Nat.reduceAdd, Nat.reduceMul, Nat.reduceSub, Nat.reduceDiv, Nat.reduceMod, Nat.reducePow, Nat.reduceEqDiff, Nat.reduceLT, ↓reduceIte, eq_self, and_self, and_true, true_and, and_false, false_and, if_true, if_false, ite_true, ite_false, sPlot, neqT, neqF]; try omega
  · simp (disch := omega) only [su_ap, Nat.reduceAdd, Nat.reduceMul, Nat.reduceSub, Nat.reduceDiv, Nat.reduceMod, Nat.reducePow, Nat.reduceEqDiff, Nat.reduceLT, ↓reduceIte, eq_self, and_self, and_true, true_and, and_false, false_and, if_true, if_false, ite_true, ite_false, sPlot, neqT, neqF]; try omega
  · simp (disch := omega) only [su_ap, Nat.reduceAdd, Nat.reduceMul, Nat.reduceSub, Nat.reduceDiv, Nat.reduceMod, Nat.reducePow, Nat.reduceEqDiff, Nat.reduceLT, ↓reduceIte, eq_self, and_self, and_true, true_and, and_false, false_and, if_true, if_false, ite_true, ite_false, sPlot, neqT, neqF]; try omega
  · intro j hj
    simp only [su_ap, Nat.reduceAdd, Nat.reduceMul, Nat.reduceSub, Nat.reduceDiv, Nat.reduceMod, Nat.reducePow, Nat.reduceEqDiff, Nat.reduceLT, ↓reduceIte, eq_self, and_self, and_true, true_and, and_false, false_and, if_true, if_false, ite_true, ite_false, sPlot] at hj
    try simp only [su_ap, Nat.reduceAdd, Nat.reduceMul, Nat.reduceSub, Nat.reduceDiv, Nat.reduceMod, Nat.reducePow, Nat.reduceEqDiff, Nat.reduceLT, ↓reduceIte, eq_self, and_self, and_true, true_and, and_false, false_and, if_true, if_false, ite_true, ite_false, sPlot]
    by_cases q : j = S 0 0
    · try subst q
      try simp only [su_ap, Nat.reduceAdd, Nat.reduceMul, Nat.reduceSub, Nat.reduceDiv, Nat.reduceMod, Nat.reducePow, Nat.reduceEqDiff, Nat.reduceLT, ↓reduceIte, eq_self, and_self, and_true, true_and, and_false, false_and, if_true, if_false, ite_true, ite_false, sPlot]
      first
        | omega
        | (have w := n3 _ (by omega); omega)
        | (have w := n3 _ (by omega); simp (disch := omega) only [su_ap, Nat.reduceAdd, Nat.reduceMul, Nat.reduceSub, Nat.reduceDiv, Nat.reduceMod, Nat.reducePow, Nat.reduceEqDiff, Nat.reduceLT, ↓reduceIte, eq_self, and_self, and_true, true_and, and_false, false_and, if_true, if_false, ite_true, ite_false, sPlot, neqT, neqF]; omega)
        | (simp (disch := omega) only [su_ap, Nat.reduceAdd, Nat.reduceMul, Nat.reduceSub, Nat.reduceDiv, Nat.reduceMod, Nat.reducePow, Nat.reduceEqDiff, Nat.reduceLT, ↓reduceIte, eq_self, and_self, and_true, true_and, and_false, false_and, if_true, if_false, ite_true, ite_false, sPlot, neqT, neqF]; omega)
    · try simp (disch := omega) only [su_ap, Nat.reduceAdd, Nat.reduceMul, Nat.reduceSub, Nat.reduceDiv, Nat.reduceMod, Nat.reducePow, Nat.reduceEqDiff, Nat.reduceLT, ↓reduceIte, eq_self, and_self, and_true, true_and, and_false, false_and, if_true, if_false, ite_true, ite_false, sPlot, neqT, neqF]
      first
        | omega
        | (have w := n3 j (by omega); omega)
  · intro j hj
    simp only [su_ap, Nat.reduceAdd, Nat.reduceMul, Nat.reduceSub, Nat.reduceDiv, Nat.reduceMod, Nat.reducePow, Nat.reduceEqDiff, Nat.reduceLT, ↓reduceIte, eq_self, and_self, and_true, true_and, and_false, false_and, if_true, if_false, ite_true, ite_false, sPlot] at hj
    try simp only [su_ap, Nat.reduceAdd, Nat.reduceMul, Nat.reduceSub, Nat.reduceDiv, Nat.reduceMod, Nat.reducePow, Nat.reduceEqDiff, Nat.reduceLT, ↓reduceIte, eq_self, and_self, and_true, true_and, and_false, false_and, if_true, if_false, ite_true, ite_false, sPlot]
    by_cases q : j = S 0 0
    · try subst q
      try simp only [su_ap, Nat.reduceAdd, Nat.reduceMul, Nat.reduceSub, Nat.reduceDiv, Nat.reduceMod, Nat.reducePow, Nat.reduceEqDiff, Nat.reduceLT, ↓reduceIte, eq_self, and_self, and_true, true_and, and_false, false_and, if_true, if_false, ite_true, ite_false, sPlot]
      first
        | omega
        | (have w := n4 _ (by omega); omega)
        | (have w := n4 _ (by omega); simp (disch := omega) only [su_ap, Nat.reduceAdd, Nat.reduceMul, Nat.reduceSub, Nat.reduceDiv, Nat.reduceMod, Nat.reducePow, Nat.reduceEqDiff, Nat.reduceLT, ↓reduceIte, eq_self, and_self, and_true, true_and, and_false, false_and, if_true, if_false, ite_true, ite_false, sPlot, neqT, neqF]; omega)
        | (simp (disch := omega) only [su_ap, Nat.reduceAdd, Nat.reduceMul, Nat.reduceSub, Nat.reduceDiv, Nat.reduceMod, Nat.reducePow, Nat.reduceEqDiff, Nat.reduceLT, ↓reduceIte, eq_self, and_self, and_true, true_and, and_false, false_and, if_true, if_false, ite_true, ite_false, sPlot, neqT, neqF]; omega)
    · try simp (disch := omega) only [su_ap, Nat.reduceAdd, Nat.reduceMul, Nat.reduceSub, Nat.reduceDiv, Nat.reduceMod, Nat.reducePow, Nat.reduceEqDiff, Nat.reduceLT, ↓reduceIte, eq_self, and_self, and_true, true_and, and_false, false_and, if_true, if_false, ite_true, ite_false, sPlot, neqT, neqF]
      first
        | omega
        | (have w := n4 j (by omega); omega)
  · intro r hr
    simp only [su_ap, Nat.reduceAdd, Nat.reduceMul, Nat.reduceSub, Nat.reduceDiv, Nat.reduceMod, Nat.reducePow, Nat.reduceEqDiff, Nat.reduceLT, ↓reduceIte, eq_self, and_self, and_true, true_and, and_false, false_and, if_true, if_false, ite_true, ite_false, sPlot] at hr
    omega
  · intro j hj
    simp only [su_ap, Nat.reduceAdd, Nat.reduceMul, Nat.reduceSub, Nat.reduceDiv, Nat.reduceMod, Nat.reducePow, Nat.reduceEqDiff, Nat.reduceLT, ↓reduceIte, eq_self, and_self, and_true, true_and, and_false, false_and, if_true, if_false, ite_true, ite_false, sPlot] at hj
    try simp only [su_ap, Nat.reduceAdd, Nat.reduceMul, Nat.reduceSub, Nat.reduceDiv, Nat.reduceMod, Nat.reducePow, Nat.reduceEqDiff, Nat.reduceLT, ↓reduceIte, eq_self, and_self, and_true, true_and, and_false, false_and, if_true, if_false, ite_true, ite_false, sPlot]
    by_cases q : j = S 0 0
    · try subst q
      try simp only [su_ap, Nat.reduceAdd, Nat.reduceMul, Nat.reduceSub, Nat.reduceDiv, Nat.reduceMod, Nat.reducePow, Nat.reduceEqDiff, Nat.reduceLT, ↓reduceIte, eq_self, and_self, and_true, true_and, and_false, false_and, if_true, if_false, ite_true, ite_false, sPlot]
      first
        | omega
        | (have w := z10 _ (by omega); omega)
        | (have w := z10 _ (by omega); simp (disch := omega) only [su_ap, Nat.reduceAdd, Nat.reduceMul, Nat.reduceSub, Nat.reduceDiv, Nat.reduceMod, Nat.reducePow, Nat.reduceEqDiff, Nat.reduceLT, ↓reduceIte, eq_self, and_self, and_true, true_and, and_false, false_and, if_true, if_false, ite_true, ite_false, sPlot, neqT, neqF]; omega)
        | (simp (disch := omega) only [su_ap, Nat.reduceAdd, Nat.reduceMul, Nat.reduceSub, Nat.reduceDiv, Nat.reduceMod, Nat.reducePow, Nat.reduceEqDiff, Nat.reduceLT, ↓reduceIte, eq_self, and_self, and_true, true_and, and_false, false_and, if_true, if_false, ite_true, ite_false, sPlot, neqT, neqF]; omega)
    · try simp (disch := omega) only [su_ap, Nat.reduceAdd, Nat.reduceMul, Nat.reduceSub, Nat.reduceDiv, Nat.reduceMod, Nat.reducePow, Nat.reduceEqDiff, Nat.reduceLT, ↓reduceIte, eq_self, and_self, and_true, true_and, and_false, false_and, if_true, if_false, ite_true, ite_false, sPlot, neqT, neqF]
      first
        | omega
        | (have w := z10 j (by omega); omega)
  · exact z11
  · intro j hj
    simp only [su_ap, Nat.reduceAdd, Nat.reduceMul, Nat.reduceSub, Nat.reduceDiv, Nat.reduceMod, Nat.reducePow, Nat.reduceEqDiff, Nat.reduceLT, ↓reduceIte, eq_self, and_self, and_true, true_and, and_false, false_and, if_true, if_false, ite_true, ite_false, sPlot] at hj
    try simp only [su_ap, Nat.reduceAdd, Nat.reduceMul, Nat.reduceSub, Nat.reduceDiv, Nat.reduceMod, Nat.reducePow, Nat.reduceEqDiff, Nat.reduceLT, ↓reduceIte, eq_self, and_self, and_true, true_and, and_false, false_and, if_true, if_false, ite_true, ite_false, sPlot]
    by_cases q : j = S 0 0
    · try subst q
      try simp only [su_ap, Nat.reduceAdd, Nat.reduceMul, Nat.reduceSub, Nat.reduceDiv, Nat.reduceMod, Nat.reducePow, Nat.reduceEqDiff, Nat.reduceLT, ↓reduceIte, eq_self, and_self, and_true, true_and, and_false, false_and, if_true, if_false, ite_true, ite_false, sPlot]
      first
        | omega
        | (have w := z12 _ (by omega); omega)
        | (have w := z12 _ (by omega); simp (disch := omega) only [su_ap, Nat.reduceAdd, Nat.reduceMul, Nat.reduceSub, Nat.reduceDiv, Nat.reduceMod, Nat.reducePow, Nat.reduceEqDiff, Nat.reduceLT, ↓reduceIte, eq_self, and_self, and_true, true_and, and_false, false_and, if_true, if_false, ite_true, ite_false, sPlot, neqT, neqF]; omega)
        | (simp (disch := omega) only [su_ap, Nat.reduceAdd, Nat.reduceMul, Nat.reduceSub, Nat.reduceDiv, Nat.reduceMod, Nat.reducePow, Nat.reduceEqDiff, Nat.reduceLT, ↓reduceIte, eq_self, and_self, and_true, true_and, and_false, false_and, if_true, if_false, ite_true, ite_false, sPlot, neqT, neqF]; omega)
    · try simp (disch := omega) only [su_ap, Nat.reduceAdd, Nat.reduceMul, Nat.reduceSub, Nat.reduceDiv, Nat.reduceMod, Nat.reducePow, Nat.reduceEqDiff, Nat.reduceLT, ↓reduceIte, eq_self, and_self, and_true, true_and, and_false, false_and, if_true, if_false, ite_true, ite_false, sPlot, neqT, neqF]
      first
        | omega
        | (have w := z12 j (by omega); omega)
  · intro j hj
    simp only [su_ap, Nat.reduceAdd, Nat.reduceMul, Nat.reduceSub, Nat.reduceDiv, Nat.reduceMod, Nat.reducePow, Nat.reduceEqDiff, Nat.reduceLT, ↓reduceIte, eq_self, and_self, and_true, true_and, and_false, false_and, if_true, if_false, ite_true, ite_false, sPlot] at hj
    try simp only [su_ap, Nat.reduceAdd, Nat.reduceMul, Nat.reduceSub, Nat.reduceDiv, Nat.reduceMod, Nat.reducePow, Nat.reduceEqDiff, Nat.reduceLT, ↓reduceIte, eq_self, and_self, and_true, true_and, and_false, false_and, if_true, if_false, ite_true, ite_false, sPlot]
    by_cases q : j = S 0 0
    · try subst q
      try simp only [su_ap, Nat.reduceAdd, Nat.reduceMul, Nat.reduceSub, Nat.reduceDiv, Nat.reduceMod, Nat.reducePow, Nat.reduceEqDiff, Nat.reduceLT, ↓reduceIte, eq_self, and_self, and_true, true_and, and_false, false_and, if_true, if_false, ite_true, ite_false, sPlot]
      first
        | omega
        | (have w := z13 _ (by omega); omega)
        | (have w := z13 _ (by omega); simp (disch := omega) only [su_ap, Nat.reduceAdd, Nat.reduceMul, Nat.reduceSub, Nat.reduceDiv, Nat.reduceMod, Nat.reducePow, Nat.reduceEqDiff, Nat.reduceLT, ↓reduceIte, eq_self, and_self, and_true, true_and, and_false, false_and, if_true, if_false, ite_true, ite_false, sPlot, neqT, neqF]; omega)
        | (simp (disch := omega) only [su_ap, Nat.reduceAdd, Nat.reduceMul, Nat.reduceSub, Nat.reduceDiv, Nat.reduceMod, Nat.reducePow, Nat.reduceEqDiff, Nat.reduceLT, ↓reduceIte, eq_self, and_self, and_true, true_and, and_false, false_and, if_true, if_false, ite_true, ite_false, sPlot, neqT, neqF]; omega)
    · try simp (disch := omega) only [su_ap, Nat.reduceAdd, Nat.reduceMul, Nat.reduceSub, Nat.reduceDiv, Nat.reduceMod, Nat.reducePow, Nat.reduceEqDiff, Nat.reduceLT, ↓reduceIte, eq_self, and_self, and_true, true_and, and_false, false_and, if_true, if_false, ite_true, ite_false, sPlot, neqT, neqF]
      first
        | omega
        | (have w := z13 j (by omega); omega)
set_option maxHeartbeats 1000000 in
theorem sok_shirt {t : Nat} {S : eS} (hs : sok t S) {c : Nat} (hc : c ≤ 12) (hc1 : 1 ≤ c) (hp : S 0 1 < 4) : sok t (sShirt S c) := by
  obtain ⟨z0, z1, z2, z3, z4, z5, z6, z7, ⟨n0, n1, n2, n3, n4⟩, z9, z10, z11, z12, z13⟩ := hs
  refine ⟨?_, ?_, ?_, ?_, ?_, ?_, ?_, ?_, ⟨?_, ?_, ?_, ?_, ?_⟩, ?_, ?_, ?_, ?_, ?_⟩
  · simp (disch := omega) only [su_ap, Nat.reduceAdd, Nat.reduceMul, Nat.reduceSub, Nat.reduceDiv, Nat.reduceMod, Nat.reducePow, Nat.reduceEqDiff, Nat.reduceLT, ↓reduceIte, eq_self, and_self, and_true, true_and, and_false, false_and, if_true, if_false, ite_true, ite_false, sShirt, neqT, neqF]; try omega
  · simp (disch := omega) only [su_ap, Nat.reduceAdd, Nat.reduceMul, Nat.reduceSub, Nat.reduceDiv, Nat.reduceMod, Nat.reducePow, Nat.reduceEqDiff, Nat.reduceLT, ↓reduceIte, eq_self, and_self, and_true, true_and, and_false, false_and, if_true, if_false, ite_true, ite_false, sShirt, neqT, neqF]; try omega
  · simp (disch := omega) only [su_ap, Nat.reduceAdd, Nat.reduceMul, Nat.reduceSub, Nat.reduceDiv, Nat.reduceMod, Nat.reducePow, Nat.reduceEqDiff, Nat.reduceLT, ↓reduceIte, eq_self, and_self, and_true, true_and, and_false, false_and, if_true, if_false, ite_true, ite_false, sShirt, neqT, neqF]; try omega
  · simp (disch := omega) only [su_ap, Nat.reduceAdd, Nat.reduceMul, Nat.reduceSub, Nat.reduceDiv, Nat.reduceMod, Nat.reducePow, Nat.reduceEqDiff, Nat.reduceLT, ↓reduceIte, eq_self, and_self, and_true, true_and, and_false, false_and, if_true, if_false, ite_true, ite_false, sShirt, neqT, neqF]; try omega
  · simp (disch := omega) only [su_ap, Nat.reduceAdd, Nat.reduceMul, Nat.reduceSub, Nat.reduceDiv, Nat.reduceMod, Nat.reducePow, Nat.reduceEqDiff, Nat.reduceLT, ↓reduceIte, eq_self, and_self, and_true, true_and, and_false, false_and, if_true, if_false, ite_true, ite_false, sShirt, neqT, neqF]; try omega
  · simp (disch := omega) only [su_ap, Nat.reduceAdd, Nat.reduceMul, Nat.reduceSub, Nat.reduceDiv, Nat.reduceMod, Nat.reducePow, Nat.reduceEqDiff, Nat.reduceLT, ↓reduceIte, eq_self, and_self, and_true, true_and, and_false, false_and, if_true, if_false, ite_true, ite_false, sShirt, neqT, neqF]; try omega
  · intro j hj
    simp only [su_ap, Nat.reduceAdd, Nat.reduceMul, Nat.reduceSub, Nat.reduceDiv, Nat.reduceMod, Nat.reducePow, Nat.reduceEqDiff, Nat.reduceLT, ↓reduceIte, eq_self, and_self, and_true, true_and, and_false, false_and, if_true, if_false, ite_true, ite_false, sShirt] at hj
    try simp only [su_ap, Nat.reduceAdd, Nat.reduceMul, Nat.reduceSub, Nat.reduceDiv, Nat.reduceMod, Nat.reducePow, Nat.reduceEqDiff, Nat.reduceLT, ↓reduceIte, eq_self, and_self, and_true, true_and, and_false, false_and, if_true, if_false, ite_true, ite_false, sShirt]
    by_cases q : j = S 0 1
    · try subst q
      try simp only [su_ap, Nat.reduceAdd, Nat.reduceMul, Nat.reduceSub, Nat.reduceDiv, Nat.reduceMod, Nat.reducePow, Nat.reduceEqDiff, Nat.reduceLT, ↓reduceIte, eq_self, and_self, and_true, true_and, and_false, false_and, if_true, if_false, ite_true, ite_false, sShirt]
      first
        | omega
        | (have w := z6 _ (by omega); omega)
        | (have w := z6 _ (by omega); simp (disch := omega) only [su_ap, Nat.reduceAdd, Nat.reduceMul, Nat.reduceSub, Nat.reduceDiv, Nat.reduceMod, Nat.reducePow, Nat.reduceEqDiff, Nat.reduceLT, ↓reduceIte, eq_self, and_self, and_true, true_and, and_false, false_and, if_true, if_false, ite_true, ite_false, sShirt, neqT, neqF]; omega)
        | (simp (disch := omega) only [su_ap, Nat.reduceAdd, Nat.reduceMul, Nat.reduceSub, Nat.reduceDiv, Nat.reduceMod, Nat.reducePow, Nat.reduceEqDiff, Nat.reduceLT, ↓reduceIte, eq_self, and_self, and_true, true_and, and_false, false_and, if_true, if_false, ite_true, ite_false, sShirt, neqT, neqF]; omega)
    · try simp (disch := omega) only [su_ap, Nat.reduceAdd, Nat.reduceMul, Nat.reduceSub, Nat.reduceDiv, Nat.reduceMod, Nat.reducePow, Nat.reduceEqDiff, Nat.reduceLT, ↓reduceIte, eq_self, and_self, and_true, true_and, and_false, false_and, if_true, if_false, ite_true, ite_false, sShirt, neqT, neqF]
      first
        | omega
        | (have w := z6 j (by omega); omega)
  · intro j hj
    simp only [su_ap, Nat.reduceAdd, Nat.reduceMul, Nat.reduceSub, Nat.reduceDiv, Nat.reduceMod, Nat.reducePow, Nat.reduceEqDiff, Nat.reduceLT, ↓reduceIte, eq_self, and_self, and_true, true_and, and_false, false_and, if_true, if_false, ite_true, ite_false, sShirt] at hj
    try simp only [su_ap, Nat.reduceAdd, Nat.reduceMul, Nat.reduceSub, Nat.reduceDiv, Nat.reduceMod, Nat.reducePow, Nat.reduceEqDiff, Nat.reduceLT, ↓reduceIte, eq_self, and_self, and_true, true_and, and_false, false_and, if_true, if_false, ite_true, ite_false, sShirt]
    by_cases q : j = S 0 1
    · try subst q
      try simp only [su_ap, Nat.reduceAdd, Nat.reduceMul, Nat.reduceSub, Nat.reduceDiv, Nat.reduceMod, Nat.reducePow, Nat.reduceEqDiff, Nat.reduceLT, ↓reduceIte, eq_self, and_self, and_true, true_and, and_false, false_and, if_true, if_false, ite_true, ite_false, sShirt]
      first
        | omega
        | (have w := z7 _ (by omega); omega)
        | (have w := z7 _ (by omega); simp (disch := omega) only [su_ap, Nat.reduceAdd, Nat.reduceMul, Nat.reduceSub, Nat.reduceDiv, Nat.reduceMod, Nat.reducePow, Nat.reduceEqDiff, Nat.reduceLT, ↓reduceIte, eq_self, and_self, and_true, true_and, and_false, false_and, if_true, if_false, ite_true, ite_false, sShirt, neqT, neqF]; omega)
        | (simp (disch := omega) only [su_ap, Nat.reduceAdd, Nat.reduceMul, Nat.reduceSub, Nat.reduceDiv, Nat.reduceMod, Nat.reducePow, Nat.reduceEqDiff, Nat.reduceLT, ↓reduceIte, eq_self, and_self, and_true, true_and, and_false, false_and, if_true, if_false, ite_true, ite_false, sShirt, neqT, neqF]; omega)
    · try simp (disch := omega) only [su_ap, Nat.reduceAdd, Nat.reduceMul, Nat.reduceSub, Nat.reduceDiv, Nat.reduceMod, Nat.reducePow, Nat.reduceEqDiff, Nat.reduceLT, ↓reduceIte, eq_self, and_self, and_true, true_and, and_false, false_and, if_true, if_false, ite_true, ite_false, sShirt, neqT, neqF]
      first
        | omega
        | (have w := z7 j (by omega); omega)
  · simp (disch := omega) only [su_ap, Nat.reduceAdd, Nat.reduceMul, Nat.reduceSub, Nat.reduceDiv, Nat.reduceMod, Nat.reducePow, Nat.reduceEqDiff, Nat.reduceLT, ↓reduceIte, eq_self, and_self, and_true, true_and, and_false, false_and, if_true, if_false, ite_true, ite_false, sShirt, neqT, neqF]; try omega
  · simp (disch := omega) only [su_ap, Nat.reduceAdd, Nat.reduceMul, Nat.reduceSub, Nat.reduceDiv, Nat.reduceMod, Nat.reducePow, Nat.reduceEqDiff, Nat.reduceLT, ↓reduceIte, eq_self, and_self, and_true, true_and, and_false, false_and, if_true, if_false, ite_true, ite_false, sShirt, neqT, neqF]; try omega
  · simp (disch := omega) only [su_ap, Nat.reduceAdd, Nat.reduceMul, Nat.reduceSub, Nat.reduceDiv, Nat.reduceMod, Nat.reducePow, Nat.reduceEqDiff, Nat.reduceLT, ↓reduceIte, eq_self, and_self, and_true, true_and, and_false, false_and, if_true, if_false, ite_true, ite_false, sShirt, neqT, neqF]; try omega
  · intro j hj
    simp only [su_ap, Nat.reduceAdd, Nat.reduceMul, Nat.reduceSub, Nat.reduceDiv, Nat.reduceMod, Nat.reducePow, Nat.reduceEqDiff, Nat.reduceLT, ↓reduceIte, eq_self, and_self, and_true, true_and, and_false, false_and, if_true, if_false, ite_true, ite_false, sShirt] at hj
    try simp only [su_ap, Nat.reduceAdd, Nat.reduceMul, Nat.reduceSub, Nat.reduceDiv, Nat.reduceMod, Nat.reducePow, Nat.reduceEqDiff, Nat.reduceLT, ↓reduceIte, eq_self, and_self, and_true, true_and, and_false, false_and, if_true, if_false, ite_true, ite_false, sShirt]
    by_cases q : j = S 0 1
    · try subst q
      try simp only [su_ap, Nat.reduceAdd, Nat.reduceMul, Nat.reduceSub, Nat.reduceDiv, Nat.reduceMod, Nat.reducePow, Nat.reduceEqDiff, Nat.reduceLT, ↓reduceIte, eq_self, and_self, and_true, true_and, and_false, false_and, if_true, if_false, ite_true, ite_false, sShirt]
      first
        | omega
        | (have w := n3 _ (by omega); omega)
        | (have w := n3 _ (by omega); simp (disch := omega) only [su_ap, Nat.reduceAdd, Nat.reduceMul, Nat.reduceSub, Nat.reduceDiv, Nat.reduceMod, Nat.reducePow, Nat.reduceEqDiff, Nat.reduceLT, ↓reduceIte, eq_self, and_self, and_true, true_and, and_false, false_and, if_true, if_false, ite_true, ite_false, sShirt, neqT, neqF]; omega)
        | (simp (disch := omega) only [su_ap, Nat.reduceAdd, Nat.reduceMul, Nat.reduceSub, Nat.reduceDiv, Nat.reduceMod, Nat.reducePow, Nat.reduceEqDiff, Nat.reduceLT, ↓reduceIte, eq_self, and_self, and_true, true_and, and_false, false_and, if_true, if_false, ite_true, ite_false, sShirt, neqT, neqF]; omega)
    · try simp (disch := omega) only [su_ap, Nat.reduceAdd, Nat.reduceMul, Nat.reduceSub, Nat.reduceDiv, Nat.reduceMod, Nat.reducePow, Nat.reduceEqDiff, Nat.reduceLT, ↓reduceIte, eq_self, and_self, and_true, true_and, and_false, false_and, if_true, if_false, ite_true, ite_false, sShirt, neqT, neqF]
      first
        | omega
        | (have w := n3 j (by omega); omega)
  · intro j hj
    simp only [su_ap, Nat.reduceAdd, Nat.reduceMul, Nat.reduceSub, Nat.reduceDiv, Nat.reduceMod, Nat.reducePow, Nat.reduceEqDiff, Nat.reduceLT, ↓reduceIte, eq_self, and_self, and_true, true_and, and_false, false_and, if_true, if_false, ite_true, ite_false, sShirt] at hj
    try simp only [su_ap, Nat.reduceAdd, Nat.reduceMul, Nat.reduceSub, Nat.reduceDiv, Nat.reduceMod, Nat.reducePow, Nat.reduceEqDiff, Nat.reduceLT, ↓reduceIte, eq_self, and_self, and_true, true_and, and_false, false_and, if_true, if_false, ite_true, ite_false, sShirt]
    by_cases q : j = S 0 1
    · try subst q
      try simp only [su_ap, Nat.reduceAdd, Nat.reduceMul, Nat.reduceSub, Nat.reduceDiv, Nat.reduceMod, Nat.reducePow, Nat.reduceEqDiff, Nat.reduceLT, ↓reduceIte, eq_self, and_self, and_true, true_and, and_false, false_and, if_true, if_false, ite_true, ite_false, sShirt]
      first
        | omega
        | (have w := n4 _ (by omega); omega)
        | (have w := n4 _ (by omega); simp (disch := omega) only [su_ap, Nat.reduceAdd, Nat.reduceMul, Nat.reduceSub, Nat.reduceDiv, Nat.reduceMod, Nat.reducePow, Nat.reduceEqDiff, Nat.reduceLT, ↓reduceIte, eq_self, and_self, and_true, true_and, and_false, false_and, if_true, if_false, ite_true, ite_false, sShirt, neqT, neqF]; omega)
        | (simp (disch := omega) only [su_ap, Nat.reduceAdd, Nat.reduceMul, Nat.reduceSub, Nat.reduceDiv, Nat.reduceMod, Nat.reducePow, Nat.reduceEqDiff, Nat.reduceLT, ↓reduceIte, eq_self, and_self, and_true, true_and, and_false, false_and, if_true, if_false, ite_true, ite_false, sShirt, neqT, neqF]; omega)
    · try simp (disch := omega) only [su_ap, Nat.reduceAdd, Nat.reduceMul, Nat.reduceSub, Nat.reduceDiv, Nat.reduceMod, Nat.reducePow, Nat.reduceEqDiff, Nat.reduceLT, ↓reduceIte, eq_self, and_self, and_true, true_and, and_false, false_and, if_true, if_false, ite_true, ite_false, sShirt, neqT, neqF]
      first
        | omega
        | (have w := n4 j (by omega); omega)
  · intro r hr
    simp only [su_ap, Nat.reduceAdd, Nat.reduceMul, Nat.reduceSub, Nat.reduceDiv, Nat.reduceMod, Nat.reducePow, Nat.reduceEqDiff, Nat.reduceLT, ↓reduceIte, eq_self, and_self, and_true, true_and, and_false, false_and, if_true, if_false, ite_true, ite_false, sShirt] at hr
    omega
  · intro j hj
    simp only [su_ap, Nat.reduceAdd, Nat.reduceMul, Nat.reduceSub, Nat.reduceDiv, Nat.reduceMod, Nat.reducePow, Nat.reduceEqDiff, Nat.reduceLT, ↓reduceIte, eq_self, and_self, and_true, true_and, and_false, false_and, if_true, if_false, ite_true, ite_false, sShirt] at hj
    try simp only [su_ap, Nat.reduceAdd, Nat.reduceMul, Nat.reduceSub, Nat.reduceDiv, Nat.reduceMod, Nat.reducePow, Nat.reduceEqDiff, Nat.reduceLT, ↓reduceIte, eq_self, and_self, and_true, true_and, and_false, false_and, if_true, if_false, ite_true, ite_false, sShirt]
    by_cases q : j = S 0 1
    · try subst q
      try simp only [su_ap, Nat.reduceAdd, Nat.reduceMul, Nat.reduceSub, Nat.reduceDiv, Nat.reduceMod, Nat.reducePow, Nat.reduceEqDiff, Nat.reduceLT, ↓reduceIte, eq_self, and_self, and_true, true_and, and_false, false_and, if_true, if_false, ite_true, ite_false, sShirt]
      first
        | omega
        | (have w := z10 _ (by omega); omega)
        | (have w := z10 _ (by omega); simp (disch := omega) only [su_ap, Nat.reduceAdd, Nat.reduceMul, Nat.reduceSub, Nat.reduceDiv, Nat.reduceMod, Nat.reducePow, Nat.reduceEqDiff, Nat.reduceLT, ↓reduceIte, eq_self, and_self, and_true, true_and, and_false, false_and, if_true, if_false, ite_true, ite_false, sShirt, neqT, neqF]; omega)
        | (simp (disch := omega) only [su_ap, Nat.reduceAdd, Nat.reduceMul, Nat.reduceSub, Nat.reduceDiv, Nat.reduceMod, Nat.reducePow, Nat.reduceEqDiff, Nat.reduceLT, ↓reduceIte, eq_self, and_self, and_true, true_and, and_false, false_and, if_true, if_false, ite_true, ite_false, sShirt, neqT, neqF]; omega)
    · try simp (disch := omega) only [su_ap, Nat.reduceAdd, Nat.reduceMul, Nat.reduceSub, Nat.reduceDiv, Nat.reduceMod, Nat.reducePow, Nat.reduceEqDiff, Nat.reduceLT, ↓reduceIte, eq_self, and_self, and_true, true_and, and_false, false_and, if_true, if_false, ite_true, ite_false, sShirt, neqT, neqF]
      first
        | omega
        | (have w := z10 j (by omega); omega)
  · exact z11
  · intro j hj
    simp only [su_ap, Nat.reduceAdd, Nat.reduceMul, Nat.reduceSub, Nat.reduceDiv, Nat.reduceMod, Nat.reducePow, Nat.reduceEqDiff, Nat.reduceLT, ↓reduceIte, eq_self, and_self, and_true, true_and, and_false, false_and, if_true, if_false, ite_true, ite_false, sShirt] at hj
    try simp only [su_ap, Nat.reduceAdd, Nat.reduceMul, Nat.reduceSub, Nat.reduceDiv, Nat.reduceMod, Nat.reducePow, Nat.reduceEqDiff, Nat.reduceLT, ↓reduceIte, eq_self, and_self, and_true, true_and, and_false, false_and, if_true, if_false, ite_true, ite_false, sShirt]
    by_cases q : j = S 0 1
    · try subst q
      try simp only [su_ap, Nat.reduceAdd, Nat.reduceMul, Nat.reduceSub, Nat.reduceDiv, Nat.reduceMod, Nat.reducePow, Nat.reduceEqDiff, Nat.reduceLT, ↓reduceIte, eq_self, and_self, and_true, true_and, and_false, false_and, if_true, if_false, ite_true, ite_false, sShirt]
      first
        | omega
        | (have w := z12 _ (by omega); omega)
        | (have w := z12 _ (by omega); simp (disch := omega) only [su_ap, Nat.reduceAdd, Nat.reduceMul, Nat.reduceSub, Nat.reduceDiv, Nat.reduceMod, Nat.reducePow, Nat.reduceEqDiff, Nat.reduceLT, ↓reduceIte, eq_self, and_self, and_true, true_and, and_false, false_and, if_true, if_false, ite_true, ite_false, sShirt, neqT, neqF]; omega)
        | (simp (disch := omega) only [su_ap, Nat.reduceAdd, Nat.reduceMul, Nat.reduceSub, Nat.reduceDiv, Nat.reduceMod, Nat.reducePow, Nat.reduceEqDiff, Nat.reduceLT, ↓reduceIte, eq_self, and_self, and_true, true_and, and_false, false_and, if_true, if_false, ite_true, ite_false, sShirt, neqT, neqF]; omega)
    · try simp (disch := omega) only [su_ap, Nat.reduceAdd, Nat.reduceMul, Nat.reduceSub, Nat.reduceDiv, Nat.reduceMod, Nat.reducePow, Nat.reduceEqDiff, Nat.reduceLT, ↓reduceIte, eq_self, and_self, and_true, true_and, and_false, false_and, if_true, if_false, ite_true, ite_false, sShirt, neqT, neqF]
      first
        | omega
        | (have w := z12 j (by omega); omega)
  · intro j hj
    simp only [su_ap, Nat.reduceAdd, Nat.reduceMul, Nat.reduceSub, Nat.reduceDiv, Nat.reduceMod, Nat.reducePow, Nat.reduceEqDiff, Nat.reduceLT, ↓reduceIte, eq_self, and_self, and_true, true_and, and_false, false_and, if_true, if_false, ite_true, ite_false, sShirt] at hj
    try simp only [su_ap, Nat.reduceAdd, Nat.reduceMul, Nat.reduceSub, Nat.reduceDiv, Nat.reduceMod, Nat.reducePow, Nat.reduceEqDiff, Nat.reduceLT, ↓reduceIte, eq_self, and_self, and_true, true_and, and_false, false_and, if_true, if_false, ite_true, ite_false, sShirt]
    by_cases q : j = S 0 1
    · try subst q
      try simp only [su_ap, Nat.reduceAdd, Nat.reduceMul, Nat.reduceSub, Nat.reduceDiv, Nat.reduceMod, Nat.reducePow, Nat.reduceEqDiff, Nat.reduceLT, ↓reduceIte, eq_self, and_self, and_true, true_and, and_false, false_and, if_true, if_false, ite_true, ite_false, sShirt]
      first
        | omega
        | (have w := z13 _ (by omega); omega)
        | (have w := z13 _ (by omega); simp (disch := omega) only [su_ap, Nat.reduceAdd, Nat.reduceMul, Nat.reduceSub, Nat.reduceDiv, Nat.reduceMod, Nat.reducePow, Nat.reduceEqDiff, Nat.reduceLT, ↓reduceIte, eq_self, and_self, and_true, true_and, and_false, false_and, if_true, if_false, ite_true, ite_false, sShirt, neqT, neqF]; omega)
        | (simp (disch := omega) only [su_ap, Nat.reduceAdd, Nat.reduceMul, Nat.reduceSub, Nat.reduceDiv, Nat.reduceMod, Nat.reducePow, Nat.reduceEqDiff, Nat.reduceLT, ↓reduceIte, eq_self, and_self, and_true, true_and, and_false, false_and, if_true, if_false, ite_true, ite_false, sShirt, neqT, neqF]; omega)
    · try simp (disch := omega) only [su_ap, Nat.reduceAdd, Nat.reduceMul, Nat.reduceSub, Nat.reduceDiv, Nat.reduceMod, Nat.reducePow, Nat.reduceEqDiff, Nat.reduceLT, ↓reduceIte, eq_self, and_self, and_true, true_and, and_false, false_and, if_true, if_false, ite_true, ite_false, sShirt, neqT, neqF]
      first
        | omega
        | (have w := z13 j (by omega); omega)
set_option maxHeartbeats 1000000 in
theorem sok_told {t : Nat} {S : eS} (hs : sok t S) {a c : Nat} (hc : c ≤ 20) : sok t (sBare S a c) := by
  obtain ⟨z0, z1, z2, z3, z4, z5, z6, z7, ⟨n0, n1, n2, n3, n4⟩, z9, z10, z11, z12, z13⟩ := hs
  refine ⟨?_, ?_, ?_, ?_, ?_, ?_, ?_, ?_, ⟨?_, ?_, ?_, ?_, ?_⟩, ?_, ?_, ?_, ?_, ?_⟩
  · simp (disch := omega) only [su_ap, Nat.reduceAdd, Nat.reduceMul, Nat.reduceSub, Nat.reduceDiv, Nat.reduceMod, Nat.reducePow, Nat.reduceEqDiff, Nat.reduceLT, ↓reduceIte, eq_self, and_self, and_true, true_and, and_false, false_and, if_true, if_false, ite_true, ite_false, sBare, neqT, neqF]; try omega
  · simp (disch := omega) only [su_ap, Nat.reduceAdd, Nat.reduceMul, Nat.reduceSub, Nat.reduceDiv, Nat.reduceMod, Nat.reducePow, Nat.reduceEqDiff, Nat.reduceLT, ↓reduceIte, eq_self, and_self, and_true, true_and, and_false, false_and, if_true, if_false, ite_true, ite_false, sBare, neqT, neqF]; try omega
  · simp (disch := omega) only [su_ap, Nat.reduceAdd, Nat.reduceMul, Nat.reduceSub, Nat.reduceDiv, Nat.reduceMod, Nat.reducePow, Nat.reduceEqDiff, Nat.reduceLT, ↓reduceIte, eq_self, and_self, and_true, true_and, and_false, false_and, if_true, if_false, ite_true, ite_false, sBare, neqT, neqF]; try omega
  · simp (disch := omega) only [su_ap, Nat.reduceAdd, Nat.reduceMul, Nat.reduceSub, Nat.reduceDiv, Nat.reduceMod, Nat.reducePow, Nat.reduceEqDiff, Nat.reduceLT, ↓reduceIte, eq_self, and_self, and_true, true_and, and_false, false_and, if_true, if_false, ite_true, ite_false, sBare, neqT, neqF]; try omega
  · simp (disch := omega) only [su_ap, Nat.reduceAdd, Nat.reduceMul, Nat.reduceSub, Nat.reduceDiv, Nat.reduceMod, Nat.reducePow, Nat.reduceEqDiff, Nat.reduceLT, ↓reduceIte, eq_self, and_self, and_true, true_and, and_false, false_and, if_true, if_false, ite_true, ite_false, sBare, neqT, neqF]; try omega
  · simp (disch := omega) only [su_ap, Nat.reduceAdd, Nat.reduceMul, Nat.reduceSub, Nat.reduceDiv, Nat.reduceMod, Nat.reducePow, Nat.reduceEqDiff, Nat.reduceLT, ↓reduceIte, eq_self, and_self, and_true, true_and, and_false, false_and, if_true, if_false, ite_true, ite_false, sBare, neqT, neqF]; try omega
  · intro j hj
    simp only [su_ap, Nat.reduceAdd, Nat.reduceMul, Nat.reduceSub, Nat.reduceDiv, Nat.reduceMod, Nat.reducePow, Nat.reduceEqDiff, Nat.reduceLT, ↓reduceIte, eq_self, and_self, and_true, true_and, and_false, false_and, if_true, if_false, ite_true, ite_false, sBare] at hj
    try simp only [su_ap, Nat.reduceAdd, Nat.reduceMul, Nat.reduceSub, Nat.reduceDiv, Nat.reduceMod, Nat.reducePow, Nat.reduceEqDiff, Nat.reduceLT, ↓reduceIte, eq_self, and_self, and_true, true_and, and_false, false_and, if_true, if_false, ite_true, ite_false, sBare]
    by_cases q : j = a
    · try subst q
      try simp only [su_ap, Nat.reduceAdd, Nat.reduceMul, Nat.reduceSub, Nat.reduceDiv, Nat.reduceMod, Nat.reducePow, Nat.reduceEqDiff, Nat.reduceLT, ↓reduceIte, eq_self, and_self, and_true, true_and, and_false, false_and, if_true, if_false, ite_true, ite_false, sBare]
      first
        | omega
        | (have w := z6 _ (by omega); omega)
        | (have w := z6 _ (by omega); simp (disch := omega) only [su_ap, Nat.reduceAdd, Nat.reduceMul, Nat.reduceSub, Nat.reduceDiv, Nat.reduceMod, Nat.reducePow, Nat.reduceEqDiff, Nat.reduceLT, ↓reduceIte, eq_self, and_self, and_true, true_and, and_false, false_and, if_true, if_false, ite_true, ite_false, sBare, neqT, neqF]; omega)
        | (simp (disch := omega) only [su_ap, Nat.reduceAdd, Nat.reduceMul, Nat.reduceSub, Nat.reduceDiv, Nat.reduceMod, Nat.reducePow, Nat.reduceEqDiff, Nat.reduceLT, ↓reduceIte, eq_self, and_self, and_true, true_and, and_false, false_and, if_true, if_false, ite_true, ite_false, sBare, neqT, neqF]; omega)
    · try simp (disch := omega) only [su_ap, Nat.reduceAdd, Nat.reduceMul, Nat.reduceSub, Nat.reduceDiv, Nat.reduceMod, Nat.reducePow, Nat.reduceEqDiff, Nat.reduceLT, ↓reduceIte, eq_self, and_self, and_true, true_and, and_false, false_and, if_true, if_false, ite_true, ite_false, sBare, neqT, neqF]
      first
        | omega
        | (have w := z6 j (by omega); omega)
  · intro j hj
    simp only [su_ap, Nat.reduceAdd, Nat.reduceMul, Nat.reduceSub, Nat.reduceDiv, Nat.reduceMod, Nat.reducePow, Nat.reduceEqDiff, Nat.reduceLT, ↓reduceIte, eq_self, and_self, and_true, true_and, and_false, false_and, if_true, if_false, ite_true, ite_false, sBare] at hj
    try simp only [su_ap, Nat.reduceAdd, Nat.reduceMul, Nat.reduceSub, Nat.reduceDiv, Nat.reduceMod, Nat.reducePow, Nat.reduceEqDiff, Nat.reduceLT, ↓reduceIte, eq_self, and_self, and_true, true_and, and_false, false_and, if_true, if_false, ite_true, ite_false, sBare]
    by_cases q : j = a
    · try subst q
      try simp only [su_ap, Nat.reduceAdd, Nat.reduceMul, Nat.reduceSub, Nat.reduceDiv, Nat.reduceMod, Nat.reducePow, Nat.reduceEqDiff, Nat.reduceLT, ↓reduceIte, eq_self, and_self, and_true, true_and, and_false, false_and, if_true, if_false, ite_true, ite_false, sBare]
      first
        | omega
        | (have w := z7 _ (by omega); omega)
        | (have w := z7 _ (by omega); simp (disch := omega) only [su_ap, Nat.reduceAdd, Nat.reduceMul, Nat.reduceSub, Nat.reduceDiv, Nat.reduceMod, Nat.reducePow, Nat.reduceEqDiff, Nat.reduceLT, ↓reduceIte, eq_self, and_self, and_true, true_and, and_false, false_and, if_true, if_false, ite_true, ite_false, sBare, neqT, neqF]; omega)
        | (simp (disch := omega) only [su_ap, Nat.reduceAdd, Nat.reduceMul, Nat.reduceSub, Nat.reduceDiv, Nat.reduceMod, Nat.reducePow, Nat.reduceEqDiff, Nat.reduceLT, ↓reduceIte, eq_self, and_self, and_true, true_and, and_false, false_and, if_true, if_false, ite_true, ite_false, sBare, neqT, neqF]; omega)
    · try simp (disch := omega) only [su_ap, Nat.reduceAdd, Nat.reduceMul, Nat.reduceSub, Nat.reduceDiv, Nat.reduceMod, Nat.reducePow, Nat.reduceEqDiff, Nat.reduceLT, ↓reduceIte, eq_self, and_self, and_true, true_and, and_false, false_and, if_true, if_false, ite_true, ite_false, sBare, neqT, neqF]
      first
        | omega
        | (have w := z7 j (by omega); omega)
  · simp (disch := omega) only [su_ap, Nat.reduceAdd, Nat.reduceMul, Nat.reduceSub, Nat.reduceDiv, Nat.reduceMod, Nat.reducePow, Nat.reduceEqDiff, Nat.reduceLT, ↓reduceIte, eq_self, and_self, and_true, true_and, and_false, false_and, if_true, if_false, ite_true, ite_false, sBare, neqT, neqF]; try omega
  · simp (disch := omega) only [su_ap, Nat.reduceAdd, Nat.reduceMul, Nat.reduceSub, Nat.reduceDiv, Nat.reduceMod, Nat.reducePow, Nat.reduceEqDiff, Nat.reduceLT, ↓reduceIte, eq_self, and_self, and_true, true_and, and_false, false_and, if_true, if_false, ite_true, ite_false, sBare, neqT, neqF]; try omega
  · simp (disch := omega) only [su_ap, Nat.reduceAdd, Nat.reduceMul, Nat.reduceSub, Nat.reduceDiv, Nat.reduceMod, Nat.reducePow, Nat.reduceEqDiff, Nat.reduceLT, ↓reduceIte, eq_self, and_self, and_true, true_and, and_false, false_and, if_true, if_false, ite_true, ite_false, sBare, neqT, neqF]; try omega
  · intro j hj
    simp only [su_ap, Nat.reduceAdd, Nat.reduceMul, Nat.reduceSub, Nat.reduceDiv, Nat.reduceMod, Nat.reducePow, Nat.reduceEqDiff, Nat.reduceLT, ↓reduceIte, eq_self, and_self, and_true, true_and, and_false, false_and, if_true, if_false, ite_true, ite_false, sBare] at hj
    try simp only [su_ap, Nat.reduceAdd, Nat.reduceMul, Nat.reduceSub, Nat.reduceDiv, Nat.reduceMod, Nat.reducePow, Nat.reduceEqDiff, Nat.reduceLT, ↓reduceIte, eq_self, and_self, and_true, true_and, and_false, false_and, if_true, if_false, ite_true, ite_false, sBare]
    by_cases q : j = a
    · try subst q
      try simp only [su_ap, Nat.reduceAdd, Nat.reduceMul, Nat.reduceSub, Nat.reduceDiv, Nat.reduceMod, Nat.reducePow, Nat.reduceEqDiff, Nat.reduceLT, ↓reduceIte, eq_self, and_self, and_true, true_and, and_false, false_and, if_true, if_false, ite_true, ite_false, sBare]
      first
        | omega
        | (have w := n3 _ (by omega); omega)
        | (have w := n3 _ (by omega); simp (disch := omega) only [su_ap, Nat.reduceAdd, Nat.reduceMul, Nat.reduceSub, Nat.reduceDiv, Nat.reduceMod, Nat.reducePow, Nat.reduceEqDiff, Nat.reduceLT, ↓reduceIte, eq_self, and_self, and_true, true_and, and_false, false_and, if_true, if_false, ite_true, ite_false, sBare, neqT, neqF]; omega)
        | (simp (disch := omega) only [su_ap, Nat.reduceAdd, Nat.reduceMul, Nat.reduceSub, Nat.reduceDiv, Nat.reduceMod, Nat.reducePow, Nat.reduceEqDiff, Nat.reduceLT, ↓reduceIte, eq_self, and_self, and_true, true_and, and_false, false_and, if_true, if_false, ite_true, ite_false, sBare, neqT, neqF]; omega)
    · try simp (disch := omega) only [su_ap, Nat.reduceAdd, Nat.reduceMul, Nat.reduceSub, Nat.reduceDiv, Nat.reduceMod, Nat.reducePow, Nat.reduceEqDiff, Nat.reduceLT, ↓reduceIte, eq_self, and_self, and_true, true_and, and_false, false_and, if_true, if_false, ite_true, ite_false, sBare, neqT, neqF]
      first
        | omega
        | (have w := n3 j (by omega); omega)
  · intro j hj
    simp only [su_ap, Nat.reduceAdd, Nat.reduceMul, Nat.reduceSub, Nat.reduceDiv, Nat.reduceMod, Nat.reducePow, Nat.reduceEqDiff, Nat.reduceLT, ↓reduceIte, eq_self, and_self, and_true, true_and, and_false, false_and, if_true, if_false, ite_true, ite_false, sBare] at hj
    try simp only [su_ap, Nat.reduceAdd, Nat.reduceMul, Nat.reduceSub, Nat.reduceDiv, Nat.reduceMod, Nat.reducePow, Nat.reduceEqDiff, Nat.reduceLT, ↓reduceIte, eq_self, and_self, and_true, true_and, and_false, false_and, if_true, if_false, ite_true, ite_false, sBare]
    by_cases q : j = a
    · try subst q
      try simp only [su_ap, Nat.reduceAdd, Nat.reduceMul, Nat.reduceSub, Nat.reduceDiv, Nat.reduceMod, Nat.reducePow, Nat.reduceEqDiff, Nat.reduceLT, ↓reduceIte, eq_self, and_self, and_true, true_and, and_false, false_and, if_true, if_false, ite_true, ite_false, sBare]
      first
        | omega
        | (have w := n4 _ (by omega); omega)
        | (have w := n4 _ (by omega); simp (disch := omega) only [su_ap, Nat.reduceAdd, Nat.reduceMul, Nat.reduceSub, Nat.reduceDiv, Nat.reduceMod, Nat.reducePow, Nat.reduceEqDiff, Nat.reduceLT, ↓reduceIte, eq_self, and_self, and_true, true_and, and_false, false_and, if_true, if_false, ite_true, ite_false, sBare, neqT, neqF]; omega)
        | (simp (disch := omega) only [su_ap, Nat.reduceAdd, Nat.reduceMul, Nat.reduceSub, Nat.reduceDiv, Nat.reduceMod, Nat.reducePow, Nat.reduceEqDiff, Nat.reduceLT, ↓reduceIte, eq_self, and_self, and_true, true_and, and_false, false_and, if_true, if_false, ite_true, ite_false, sBare, neqT, neqF]; omega)
    · try simp (disch := omega) only [su_ap, Nat.reduceAdd, Nat.reduceMul, Nat.reduceSub, Nat.reduceDiv, Nat.reduceMod, Nat.reducePow, Nat.reduceEqDiff, Nat.reduceLT, ↓reduceIte, eq_self, and_self, and_true, true_and, and_false, false_and, if_true, if_false, ite_true, ite_false, sBare, neqT, neqF]
      first
        | omega
        | (have w := n4 j (by omega); omega)
  · exact z9
  · intro j hj
    simp only [su_ap, Nat.reduceAdd, Nat.reduceMul, Nat.reduceSub, Nat.reduceDiv, Nat.reduceMod, Nat.reducePow, Nat.reduceEqDiff, Nat.reduceLT, ↓reduceIte, eq_self, and_self, and_true, true_and, and_false, false_and, if_true, if_false, ite_true, ite_false, sBare] at hj
    try simp only [su_ap, Nat.reduceAdd, Nat.reduceMul, Nat.reduceSub, Nat.reduceDiv, Nat.reduceMod, Nat.reducePow, Nat.reduceEqDiff, Nat.reduceLT, ↓reduceIte, eq_self, and_self, and_true, true_and, and_false, false_and, if_true, if_false, ite_true, ite_false, sBare]
    by_cases q : j = a
    · try subst q
      try simp only [su_ap, Nat.reduceAdd, Nat.reduceMul, Nat.reduceSub, Nat.reduceDiv, Nat.reduceMod, Nat.reducePow, Nat.reduceEqDiff, Nat.reduceLT, ↓reduceIte, eq_self, and_self, and_true, true_and, and_false, false_and, if_true, if_false, ite_true, ite_false, sBare]
      first
        | omega
        | (have w := z10 _ (by omega); omega)
        | (have w := z10 _ (by omega); simp (disch := omega) only [su_ap, Nat.reduceAdd, Nat.reduceMul, Nat.reduceSub, Nat.reduceDiv, Nat.reduceMod, Nat.reducePow, Nat.reduceEqDiff, Nat.reduceLT, ↓reduceIte, eq_self, and_self, and_true, true_and, and_false, false_and, if_true, if_false, ite_true, ite_false, sBare, neqT, neqF]; omega)
        | (simp (disch := omega) only [su_ap, Nat.reduceAdd, Nat.reduceMul, Nat.reduceSub, Nat.reduceDiv, Nat.reduceMod, Nat.reducePow, Nat.reduceEqDiff, Nat.reduceLT, ↓reduceIte, eq_self, and_self, and_true, true_and, and_false, false_and, if_true, if_false, ite_true, ite_false, sBare, neqT, neqF]; omega)
    · try simp (disch := omega) only [su_ap, Nat.reduceAdd, Nat.reduceMul, Nat.reduceSub, Nat.reduceDiv, Nat.reduceMod, Nat.reducePow, Nat.reduceEqDiff, Nat.reduceLT, ↓reduceIte, eq_self, and_self, and_true, true_and, and_false, false_and, if_true, if_false, ite_true, ite_false, sBare, neqT, neqF]
      first
        | omega
        | (have w := z10 j (by omega); omega)
  · exact z11
  · intro j hj
    simp only [su_ap, Nat.reduceAdd, Nat.reduceMul, Nat.reduceSub, Nat.reduceDiv, Nat.reduceMod, Nat.reducePow, Nat.reduceEqDiff, Nat.reduceLT, ↓reduceIte, eq_self, and_self, and_true, true_and, and_false, false_and, if_true, if_false, ite_true, ite_false, sBare] at hj
    try simp only [su_ap, Nat.reduceAdd, Nat.reduceMul, Nat.reduceSub, Nat.reduceDiv, Nat.reduceMod, Nat.reducePow, Nat.reduceEqDiff, Nat.reduceLT, ↓reduceIte, eq_self, and_self, and_true, true_and, and_false, false_and, if_true, if_false, ite_true, ite_false, sBare]
    by_cases q : j = a
    · try subst q
      try simp only [su_ap, Nat.reduceAdd, Nat.reduceMul, Nat.reduceSub, Nat.reduceDiv, Nat.reduceMod, Nat.reducePow, Nat.reduceEqDiff, Nat.reduceLT, ↓reduceIte, eq_self, and_self, and_true, true_and, and_false, false_and, if_true, if_false, ite_true, ite_false, sBare]
      first
        | omega
        | (have w := z12 _ (by omega); omega)
        | (have w := z12 _ (by omega); simp (disch := omega) only [su_ap, Nat.reduceAdd, Nat.reduceMul, Nat.reduceSub, Nat.reduceDiv, Nat.reduceMod, Nat.reducePow, Nat.reduceEqDiff, Nat.reduceLT, ↓reduceIte, eq_self, and_self, and_true, true_and, and_false, false_and, if_true, if_false, ite_true, ite_false, sBare, neqT, neqF]; omega)
        | (simp (disch := omega) only [su_ap, Nat.reduceAdd, Nat.reduceMul, Nat.reduceSub, Nat.reduceDiv, Nat.reduceMod, Nat.reducePow, Nat.reduceEqDiff, Nat.reduceLT, ↓reduceIte, eq_self, and_self, and_true, true_and, and_false, false_and, if_true, if_false, ite_true, ite_false, sBare, neqT, neqF]; omega)
    · try simp (disch := omega) only [su_ap, Nat.reduceAdd, Nat.reduceMul, Nat.reduceSub, Nat.reduceDiv, Nat.reduceMod, Nat.reducePow, Nat.reduceEqDiff, Nat.reduceLT, ↓reduceIte, eq_self, and_self, and_true, true_and, and_false, false_and, if_true, if_false, ite_true, ite_false, sBare, neqT, neqF]
      first
        | omega
        | (have w := z12 j (by omega); omega)
  · intro j hj
    simp only [su_ap, Nat.reduceAdd, Nat.reduceMul, Nat.reduceSub, Nat.reduceDiv, Nat.reduceMod, Nat.reducePow, Nat.reduceEqDiff, Nat.reduceLT, ↓reduceIte, eq_self, and_self, and_true, true_and, and_false, false_and, if_true, if_false, ite_true, ite_false, sBare] at hj
    try simp only [su_ap, Nat.reduceAdd, Nat.reduceMul, Nat.reduceSub, Nat.reduceDiv, Nat.reduceMod, Nat.reducePow, Nat.reduceEqDiff, Nat.reduceLT, ↓reduceIte, eq_self, and_self, and_true, true_and, and_false, false_and, if_true, if_false, ite_true, ite_false, sBare]
    by_cases q : j = a
    · try subst q
      try simp only [su_ap, Nat.reduceAdd, Nat.reduceMul, Nat.reduceSub, Nat.reduceDiv, Nat.reduceMod, Nat.reducePow, Nat.reduceEqDiff, Nat.reduceLT, ↓reduceIte, eq_self, and_self, and_true, true_and, and_false, false_and, if_true, if_false, ite_true, ite_false, sBare]
      first
        | omega
        | (have w := z13 _ (by omega); omega)
        | (have w := z13 _ (by omega); simp (disch := omega) only [su_ap, Nat.reduceAdd, Nat.reduceMul, Nat.reduceSub, Nat.reduceDiv, Nat.reduceMod, Nat.reducePow, Nat.reduceEqDiff, Nat.reduceLT, ↓reduceIte, eq_self, and_self, and_true, true_and, and_false, false_and, if_true, if_false, ite_true, ite_false, sBare, neqT, neqF]; omega)
        | (simp (disch := omega) only [su_ap, Nat.reduceAdd, Nat.reduceMul, Nat.reduceSub, Nat.reduceDiv, Nat.reduceMod, Nat.reducePow, Nat.reduceEqDiff, Nat.reduceLT, ↓reduceIte, eq_self, and_self, and_true, true_and, and_false, false_and, if_true, if_false, ite_true, ite_false, sBare, neqT, neqF]; omega)
    · try simp (disch := omega) only [su_ap, Nat.reduceAdd, Nat.reduceMul, Nat.reduceSub, Nat.reduceDiv, Nat.reduceMod, Nat.reducePow, Nat.reduceEqDiff, Nat.reduceLT, ↓reduceIte, eq_self, and_self, and_true, true_and, and_false, false_and, if_true, if_false, ite_true, ite_false, sBare, neqT, neqF]
      first
        | omega
        | (have w := z13 j (by omega); omega)
set_option maxHeartbeats 1000000 in
theorem sok_sign {t : Nat} {S : eS} (hs : sok t S) {c : Nat} (hc : c < 26) (hp : S 0 3 < 60) : sok t (sSign S c) := by
  obtain ⟨z0, z1, z2, z3, z4, z5, z6, z7, ⟨n0, n1, n2, n3, n4⟩, z9, z10, z11, z12, z13⟩ := hs
  refine ⟨?_, ?_, ?_, ?_, ?_, ?_, ?_, ?_, ⟨?_, ?_, ?_, ?_, ?_⟩, ?_, ?_, ?_, ?_, ?_⟩
  · simp (disch := omega) only [su_ap, Nat.reduceAdd, Nat.reduceMul, Nat.reduceSub, Nat.reduceDiv, Nat.reduceMod, Nat.reducePow, Nat.reduceEqDiff, Nat.reduceLT, ↓reduceIte, eq_self, and_self, and_true, true_and, and_false, false_and, if_true, if_false, ite_true, ite_false, sSign, neqT, neqF]; try omega
  · simp (disch := omega) only [su_ap, Nat.reduceAdd, Nat.reduceMul, Nat.reduceSub, Nat.reduceDiv, Nat.reduceMod, Nat.reducePow, Nat.reduceEqDiff, Nat.reduceLT, ↓reduceIte, eq_self, and_self, and_true, true_and, and_false, false_and, if_true, if_false, ite_true, ite_false, sSign, neqT, neqF]; try omega
  · simp (disch := omega) only [su_ap, Nat.reduceAdd, Nat.reduceMul, Nat.reduceSub, Nat.reduceDiv, Nat.reduceMod, Nat.reducePow, Nat.reduceEqDiff, Nat.reduceLT, ↓reduceIte, eq_self, and_self, and_true, true_and, and_false, false_and, if_true, if_false, ite_true, ite_false, sSign, neqT, neqF]; try omega
  · simp (disch := omega) only [su_ap, Nat.reduceAdd, Nat.reduceMul, Nat.reduceSub, Nat.reduceDiv, Nat.reduceMod, Nat.reducePow, Nat.reduceEqDiff, Nat.reduceLT, ↓reduceIte, eq_self, and_self, and_true, true_and, and_false, false_and, if_true, if_false, ite_true, ite_false, sSign, neqT, neqF]; try omega
  · simp (disch := omega) only [su_ap, Nat.reduceAdd, Nat.reduceMul, Nat.reduceSub, Nat.reduceDiv, Nat.reduceMod, Nat.reducePow, Nat.reduceEqDiff, Nat.reduceLT, ↓reduceIte, eq_self, and_self, and_true, true_and, and_false, false_and, if_true, if_false, ite_true, ite_false, sSign, neqT, neqF]; try omega
  · simp (disch := omega) only [su_ap, Nat.reduceAdd, Nat.reduceMul, Nat.reduceSub, Nat.reduceDiv, Nat.reduceMod, Nat.reducePow, Nat.reduceEqDiff, Nat.reduceLT, ↓reduceIte, eq_self, and_self, and_true, true_and, and_false, false_and, if_true, if_false, ite_true, ite_false, sSign, neqT, neqF]; try omega
  · intro j hj
    simp only [su_ap, Nat.reduceAdd, Nat.reduceMul, Nat.reduceSub, Nat.reduceDiv, Nat.reduceMod, Nat.reducePow, Nat.reduceEqDiff, Nat.reduceLT, ↓reduceIte, eq_self, and_self, and_true, true_and, and_false, false_and, if_true, if_false, ite_true, ite_false, sSign] at hj
    try simp only [su_ap, Nat.reduceAdd, Nat.reduceMul, Nat.reduceSub, Nat.reduceDiv, Nat.reduceMod, Nat.reducePow, Nat.reduceEqDiff, Nat.reduceLT, ↓reduceIte, eq_self, and_self, and_true, true_and, and_false, false_and, if_true, if_false, ite_true, ite_false, sSign]
    by_cases q : j = S 0 3
    · try subst q
      try simp only [su_ap, Nat.reduceAdd, Nat.reduceMul, Nat.reduceSub, Nat.reduceDiv, Nat.reduceMod, Nat.reducePow, Nat.reduceEqDiff, Nat.reduceLT, ↓reduceIte, eq_self, and_self, and_true, true_and, and_false, false_and, if_true, if_false, ite_true, ite_false, sSign]
      first
        | omega
        | (have w := z6 _ (by omega); omega)
        | (have w := z6 _ (by omega); simp (disch := omega) only [su_ap, Nat.reduceAdd, Nat.reduceMul, Nat.reduceSub, Nat.reduceDiv, Nat.reduceMod, Nat.reducePow, Nat.reduceEqDiff, Nat.reduceLT, ↓reduceIte, eq_self, and_self, and_true, true_and, and_false, false_and, if_true, if_false, ite_true, ite_false, sSign, neqT, neqF]; omega)
        | (simp (disch := omega) only [su_ap, Nat.reduceAdd, Nat.reduceMul, Nat.reduceSub, Nat.reduceDiv, Nat.reduceMod, Nat.reducePow, Nat.reduceEqDiff, Nat.reduceLT, ↓reduceIte, eq_self, and_self, and_true, true_and, and_false, false_and, if_true, if_false, ite_true, ite_false, sSign, neqT, neqF]; omega)
    · try simp (disch := omega) only [su_ap, Nat.reduceAdd, Nat.reduceMul, Nat.reduceSub, Nat.reduceDiv, Nat.reduceMod, Nat.reducePow, Nat.reduceEqDiff, Nat.reduceLT, ↓reduceIte, eq_self, and_self, and_true, true_and, and_false, false_and, if_true, if_false, ite_true, ite_false, sSign, neqT, neqF]
      first
        | omega
        | (have w := z6 j (by omega); omega)
  · intro j hj
    simp only [su_ap, Nat.reduceAdd, Nat.reduceMul, Nat.reduceSub, Nat.reduceDiv, Nat.reduceMod, Nat.reducePow, Nat.reduceEqDiff, Nat.reduceLT, ↓reduceIte, eq_self, and_self, and_true, true_and, and_false, false_and, if_true, if_false, ite_true, ite_false, sSign] at hj
    try simp only [su_ap, Nat.reduceAdd, Nat.reduceMul, Nat.reduceSub, Nat.reduceDiv, Nat.reduceMod, Nat.reducePow, Nat.reduceEqDiff, Nat.reduceLT, ↓reduceIte, eq_self, and_self, and_true, true_and, and_false, false_and, if_true, if_false, ite_true, ite_false, sSign]
    by_cases q : j = S 0 3
    · try subst q
      try simp only [su_ap, Nat.reduceAdd, Nat.reduceMul, Nat.reduceSub, Nat.reduceDiv, Nat.reduceMod, Nat.reducePow, Nat.reduceEqDiff, Nat.reduceLT, ↓reduceIte, eq_self, and_self, and_true, true_and, and_false, false_and, if_true, if_false, ite_true, ite_false, sSign]
      first
        | omega
        | (have w := z7 _ (by omega); omega)
        | (have w := z7 _ (by omega); simp (disch := omega) only [su_ap, Nat.reduceAdd, Nat.reduceMul, Nat.reduceSub, Nat.reduceDiv, Nat.reduceMod, Nat.reducePow, Nat.reduceEqDiff, Nat.reduceLT, ↓reduceIte, eq_self, and_self, and_true, true_and, and_false, false_and, if_true, if_false, ite_true, ite_false, sSign, neqT, neqF]; omega)
        | (simp (disch := omega) only [su_ap, Nat.reduceAdd, Nat.reduceMul, Nat.reduceSub, Nat.reduceDiv, Nat.reduceMod, Nat.reducePow, Nat.reduceEqDiff, Nat.reduceLT, ↓reduceIte, eq_self, and_self, and_true, true_and, and_false, false_and, if_true, if_false, ite_true, ite_false, sSign, neqT, neqF]; omega)
    · try simp (disch := omega) only [su_ap, Nat.reduceAdd, Nat.reduceMul, Nat.reduceSub, Nat.reduceDiv, Nat.reduceMod, Nat.reducePow, Nat.reduceEqDiff, Nat.reduceLT, ↓reduceIte, eq_self, and_self, and_true, true_and, and_false, false_and, if_true, if_false, ite_true, ite_false, sSign, neqT, neqF]
      first
        | omega
        | (have w := z7 j (by omega); omega)
  · simp (disch := omega) only [su_ap, Nat.reduceAdd, Nat.reduceMul, Nat.reduceSub, Nat.reduceDiv, Nat.reduceMod, Nat.reducePow, Nat.reduceEqDiff, Nat.reduceLT, ↓reduceIte, eq_self, and_self, and_true, true_and, and_false, false_and, if_true, if_false, ite_true, ite_false, sSign, neqT, neqF]; try omega
  · simp (disch := omega) only [su_ap, Nat.reduceAdd, Nat.reduceMul, Nat.reduceSub, Nat.reduceDiv, Nat.reduceMod, Nat.reducePow, Nat.reduceEqDiff, Nat.reduceLT, ↓reduceIte, eq_self, and_self, and_true, true_and, and_false, false_and, if_true, if_false, ite_true, ite_false, sSign, neqT, neqF]; try omega
  · simp (disch := omega) only [su_ap, Nat.reduceAdd, Nat.reduceMul, Nat.reduceSub, Nat.reduceDiv, Nat.reduceMod, Nat.reducePow, Nat.reduceEqDiff, Nat.reduceLT, ↓reduceIte, eq_self, and_self, and_true, true_and, and_false, false_and, if_true, if_false, ite_true, ite_false, sSign, neqT, neqF]; try omega
  · intro j hj
    simp only [su_ap, Nat.reduceAdd, Nat.reduceMul, Nat.reduceSub, Nat.reduceDiv, Nat.reduceMod, Nat.reducePow, Nat.reduceEqDiff, Nat.reduceLT, ↓reduceIte, eq_self, and_self, and_true, true_and, and_false, false_and, if_true, if_false, ite_true, ite_false, sSign] at hj
    try simp only [su_ap, Nat.reduceAdd, Nat.reduceMul, Nat.reduceSub, Nat.reduceDiv, Nat.reduceMod, Nat.reducePow, Nat.reduceEqDiff, Nat.reduceLT, ↓reduceIte, eq_self, and_self, and_true, true_and, and_false, false_and, if_true, if_false, ite_true, ite_false, sSign]
    by_cases q : j = S 0 3
    · try subst q
      try simp only [su_ap, Nat.reduceAdd, Nat.reduceMul, Nat.reduceSub, Nat.reduceDiv, Nat.reduceMod, Nat.reducePow, Nat.reduceEqDiff, Nat.reduceLT, ↓reduceIte, eq_self, and_self, and_true, true_and, and_false, false_and, if_true, if_false, ite_true, ite_false, sSign]
      first
        | omega
        | (have w := n3 _ (by omega); omega)
        | (have w := n3 _ (by omega); simp (disch := omega) only [su_ap, Nat.reduceAdd, Nat.reduceMul, Nat.reduceSub, Nat.reduceDiv, Nat.reduceMod, Nat.reducePow, Nat.reduceEqDiff, Nat.reduceLT, ↓reduceIte, eq_self, and_self, and_true, true_and, and_false, false_and, if_true, if_false, ite_true, ite_false, sSign, neqT, neqF]; omega)
        | (simp (disch := omega) only [su_ap, Nat.reduceAdd, Nat.reduceMul, Nat.reduceSub, Nat.reduceDiv, Nat.reduceMod, Nat.reducePow, Nat.reduceEqDiff, Nat.reduceLT, ↓reduceIte, eq_self, and_self, and_true, true_and, and_false, false_and, if_true, if_false, ite_true, ite_false, sSign, neqT, neqF]; omega)
    · try simp (disch := omega) only [su_ap, Nat.reduceAdd, Nat.reduceMul, Nat.reduceSub, Nat.reduceDiv, Nat.reduceMod, Nat.reducePow, Nat.reduceEqDiff, Nat.reduceLT, ↓reduceIte, eq_self, and_self, and_true, true_and, and_false, false_and, if_true, if_false, ite_true, ite_false, sSign, neqT, neqF]
      first
        | omega
        | (have w := n3 j (by omega); omega)
  · intro j hj
    simp only [su_ap, Nat.reduceAdd, Nat.reduceMul, Nat.reduceSub, Nat.reduceDiv, Nat.reduceMod, Nat.reducePow, Nat.reduceEqDiff, Nat.reduceLT, ↓reduceIte, eq_self, and_self, and_true, true_and, and_false, false_and, if_true, if_false, ite_true, ite_false, sSign] at hj
    try simp only [su_ap, Nat.reduceAdd, Nat.reduceMul, Nat.reduceSub, Nat.reduceDiv, Nat.reduceMod, Nat.reducePow, Nat.reduceEqDiff, Nat.reduceLT, ↓reduceIte, eq_self, and_self, and_true, true_and, and_false, false_and, if_true, if_false, ite_true, ite_false, sSign]
    by_cases q : j = S 0 3
    · try subst q
      try simp only [su_ap, Nat.reduceAdd, Nat.reduceMul, Nat.reduceSub, Nat.reduceDiv, Nat.reduceMod, Nat.reducePow, Nat.reduceEqDiff, Nat.reduceLT, ↓reduceIte, eq_self, and_self, and_true, true_and, and_false, false_and, if_true, if_false, ite_true, ite_false, sSign]
      first
        | omega
        | (have w := n4 _ (by omega); omega)
        | (have w := n4 _ (by omega); simp (disch := omega) only [su_ap, Nat.reduceAdd, Nat.reduceMul, Nat.reduceSub, Nat.reduceDiv, Nat.reduceMod, Nat.reducePow, Nat.reduceEqDiff, Nat.reduceLT, ↓reduceIte, eq_self, and_self, and_true, true_and, and_false, false_and, if_true, if_false, ite_true, ite_false, sSign, neqT, neqF]; omega)
        | (simp (disch := omega) only [su_ap, Nat.reduceAdd, Nat.reduceMul, Nat.reduceSub, Nat.reduceDiv, Nat.reduceMod, Nat.reducePow, Nat.reduceEqDiff, Nat.reduceLT, ↓reduceIte, eq_self, and_self, and_true, true_and, and_false, false_and, if_true, if_false, ite_true, ite_false, sSign, neqT, neqF]; omega)
    · try simp (disch := omega) only [su_ap, Nat.reduceAdd, Nat.reduceMul, Nat.reduceSub, Nat.reduceDiv, Nat.reduceMod, Nat.reducePow, Nat.reduceEqDiff, Nat.reduceLT, ↓reduceIte, eq_self, and_self, and_true, true_and, and_false, false_and, if_true, if_false, ite_true, ite_false, sSign, neqT, neqF]
      first
        | omega
        | (have w := n4 j (by omega); omega)
  · exact z9
  · intro j hj
    simp only [su_ap, Nat.reduceAdd, Nat.reduceMul, Nat.reduceSub, Nat.reduceDiv, Nat.reduceMod, Nat.reducePow, Nat.reduceEqDiff, Nat.reduceLT, ↓reduceIte, eq_self, and_self, and_true, true_and, and_false, false_and, if_true, if_false, ite_true, ite_false, sSign] at hj
    try simp only [su_ap, Nat.reduceAdd, Nat.reduceMul, Nat.reduceSub, Nat.reduceDiv, Nat.reduceMod, Nat.reducePow, Nat.reduceEqDiff, Nat.reduceLT, ↓reduceIte, eq_self, and_self, and_true, true_and, and_false, false_and, if_true, if_false, ite_true, ite_false, sSign]
    by_cases q : j = S 0 3
    · try subst q
      try simp only [su_ap, Nat.reduceAdd, Nat.reduceMul, Nat.reduceSub, Nat.reduceDiv, Nat.reduceMod, Nat.reducePow, Nat.reduceEqDiff, Nat.reduceLT, ↓reduceIte, eq_self, and_self, and_true, true_and, and_false, false_and, if_true, if_false, ite_true, ite_false, sSign]
      first
        | omega
        | (have w := z10 _ (by omega); omega)
        | (have w := z10 _ (by omega); simp (disch := omega) only [su_ap, Nat.reduceAdd, Nat.reduceMul, Nat.reduceSub, Nat.reduceDiv, Nat.reduceMod, Nat.reducePow, Nat.reduceEqDiff, Nat.reduceLT, ↓reduceIte, eq_self, and_self, and_true, true_and, and_false, false_and, if_true, if_false, ite_true, ite_false, sSign, neqT, neqF]; omega)
        | (simp (disch := omega) only [su_ap, Nat.reduceAdd, Nat.reduceMul, Nat.reduceSub, Nat.reduceDiv, Nat.reduceMod, Nat.reducePow, Nat.reduceEqDiff, Nat.reduceLT, ↓reduceIte, eq_self, and_self, and_true, true_and, and_false, false_and, if_true, if_false, ite_true, ite_false, sSign, neqT, neqF]; omega)
    · try simp (disch := omega) only [su_ap, Nat.reduceAdd, Nat.reduceMul, Nat.reduceSub, Nat.reduceDiv, Nat.reduceMod, Nat.reducePow, Nat.reduceEqDiff, Nat.reduceLT, ↓reduceIte, eq_self, and_self, and_true, true_and, and_false, false_and, if_true, if_false, ite_true, ite_false, sSign, neqT, neqF]
      first
        | omega
        | (have w := z10 j (by omega); omega)
  · exact z11
  · intro j hj
    simp only [su_ap, Nat.reduceAdd, Nat.reduceMul, Nat.reduceSub, Nat.reduceDiv, Nat.reduceMod, Nat.reducePow, Nat.reduceEqDiff, Nat.reduceLT, ↓reduceIte, eq_self, and_self, and_true, true_and, and_false, false_and, if_true, if_false, ite_true, ite_false, sSign] at hj
    try simp only [su_ap, Nat.reduceAdd, Nat.reduceMul, Nat.reduceSub, Nat.reduceDiv, Nat.reduceMod, Nat.reducePow, Nat.reduceEqDiff, Nat.reduceLT, ↓reduceIte, eq_self, and_self, and_true, true_and, and_false, false_and, if_true, if_false, ite_true, ite_false, sSign]
    by_cases q : j = S 0 3
    · try subst q
      try simp only [su_ap, Nat.reduceAdd, Nat.reduceMul, Nat.reduceSub, Nat.reduceDiv, Nat.reduceMod, Nat.reducePow, Nat.reduceEqDiff, Nat.reduceLT, ↓reduceIte, eq_self, and_self, and_true, true_and, and_false, false_and, if_true, if_false, ite_true, ite_false, sSign]
      first
        | omega
        | (have w := z12 _ (by omega); omega)
        | (have w := z12 _ (by omega); simp (disch := omega) only [su_ap, Nat.reduceAdd, Nat.reduceMul, Nat.reduceSub, Nat.reduceDiv, Nat.reduceMod, Nat.reducePow, Nat.reduceEqDiff, Nat.reduceLT, ↓reduceIte, eq_self, and_self, and_true, true_and, and_false, false_and, if_true, if_false, ite_true, ite_false, sSign, neqT, neqF]; omega)
        | (simp (disch := omega) only [su_ap, Nat.reduceAdd, Nat.reduceMul, Nat.reduceSub, Nat.reduceDiv, Nat.reduceMod, Nat.reducePow, Nat.reduceEqDiff, Nat.reduceLT, ↓reduceIte, eq_self, and_self, and_true, true_and, and_false, false_and, if_true, if_false, ite_true, ite_false, sSign, neqT, neqF]; omega)
    · try simp (disch := omega) only [su_ap, Nat.reduceAdd, Nat.reduceMul, Nat.reduceSub, Nat.reduceDiv, Nat.reduceMod, Nat.reducePow, Nat.reduceEqDiff, Nat.reduceLT, ↓reduceIte, eq_self, and_self, and_true, true_and, and_false, false_and, if_true, if_false, ite_true, ite_false, sSign, neqT, neqF]
      first
        | omega
        | (have w := z12 j (by omega); omega)
  · intro j hj
    simp only [su_ap, Nat.reduceAdd, Nat.reduceMul, Nat.reduceSub, Nat.reduceDiv, Nat.reduceMod, Nat.reducePow, Nat.reduceEqDiff, Nat.reduceLT, ↓reduceIte, eq_self, and_self, and_true, true_and, and_false, false_and, if_true, if_false, ite_true, ite_false, sSign] at hj
    try simp only [su_ap, Nat.reduceAdd, Nat.reduceMul, Nat.reduceSub, Nat.reduceDiv, Nat.reduceMod, Nat.reducePow, Nat.reduceEqDiff, Nat.reduceLT, ↓reduceIte, eq_self, and_self, and_true, true_and, and_false, false_and, if_true, if_false, ite_true, ite_false, sSign]
    by_cases q : j = S 0 3
    · try subst q
      try simp only [su_ap, Nat.reduceAdd, Nat.reduceMul, Nat.reduceSub, Nat.reduceDiv, Nat.reduceMod, Nat.reducePow, Nat.reduceEqDiff, Nat.reduceLT, ↓reduceIte, eq_self, and_self, and_true, true_and, and_false, false_and, if_true, if_false, ite_true, ite_false, sSign]
      first
        | omega
        | (have w := z13 _ (by omega); omega)
        | (have w := z13 _ (by omega); simp (disch := omega) only [su_ap, Nat.reduceAdd, Nat.reduceMul, Nat.reduceSub, Nat.reduceDiv, Nat.reduceMod, Nat.reducePow, Nat.reduceEqDiff, Nat.reduceLT, ↓reduceIte, eq_self, and_self, and_true, true_and, and_false, false_and, if_true, if_false, ite_true, ite_false, sSign, neqT, neqF]; omega)
        | (simp (disch := omega) only [su_ap, Nat.reduceAdd, Nat.reduceMul, Nat.reduceSub, Nat.reduceDiv, Nat.reduceMod, Nat.reducePow, Nat.reduceEqDiff, Nat.reduceLT, ↓reduceIte, eq_self, and_self, and_true, true_and, and_false, false_and, if_true, if_false, ite_true, ite_false, sSign, neqT, neqF]; omega)
    · try simp (disch := omega) only [su_ap, Nat.reduceAdd, Nat.reduceMul, Nat.reduceSub, Nat.reduceDiv, Nat.reduceMod, Nat.reducePow, Nat.reduceEqDiff, Nat.reduceLT, ↓reduceIte, eq_self, and_self, and_true, true_and, and_false, false_and, if_true, if_false, ite_true, ite_false, sSign, neqT, neqF]
      first
        | omega
        | (have w := z13 j (by omega); omega)
set_option maxHeartbeats 1000000 in
theorem sok_hush {t : Nat} {S : eS} (hs : sok t S)   : sok t (sHush S) := by
  obtain ⟨z0, z1, z2, z3, z4, z5, z6, z7, ⟨n0, n1, n2, n3, n4⟩, z9, z10, z11, z12, z13⟩ := hs
  refine ⟨?_, ?_, ?_, ?_, ?_, ?_, ?_, ?_, ⟨?_, ?_, ?_, ?_, ?_⟩, ?_, ?_, ?_, ?_, ?_⟩
  · simp (disch := omega) only [su_ap, Nat.reduceAdd, Nat.reduceMul, Nat.reduceSub, Nat.reduceDiv, Nat.reduceMod, Nat.reducePow, Nat.reduceEqDiff, Nat.reduceLT, ↓reduceIte, eq_self, and_self, and_true, true_and, and_false, false_and, if_true, if_false, ite_true, ite_false, sHush, neqT, neqF]; try omega
  · simp (disch := omega) only [su_ap, Nat.reduceAdd, Nat.reduceMul, Nat.reduceSub, Nat.reduceDiv, Nat.reduceMod, Nat.reducePow, Nat.reduceEqDiff, Nat.reduceLT, ↓reduceIte, eq_self, and_self, and_true, true_and, and_false, false_and, if_true, if_false, ite_true, ite_false, sHush, neqT, neqF]; try omega
  · simp (disch := omega) only [su_ap, Nat.reduceAdd, Nat.reduceMul, Nat.reduceSub, Nat.reduceDiv, Nat.reduceMod, Nat.reducePow, Nat.reduceEqDiff, Nat.reduceLT, ↓reduceIte, eq_self, and_self, and_true, true_and, and_false, false_and, if_true, if_false, ite_true, ite_false, sHush, neqT, neqF]; try omega
  · simp (disch := omega) only [su_ap, Nat.reduceAdd, Nat.reduceMul, Nat.reduceSub, Nat.reduceDiv, Nat.reduceMod, Nat.reducePow, Nat.reduceEqDiff, Nat.reduceLT, ↓reduceIte, eq_self, and_self, and_true, true_and, and_false, false_and, if_true, if_false, ite_true, ite_false, sHush, neqT, neqF]; try omega
  · simp (disch := omega) only [su_ap, Nat.reduceAdd, Nat.reduceMul, Nat.reduceSub, Nat.reduceDiv, Nat.reduceMod, Nat.reducePow, Nat.reduceEqDiff, Nat.reduceLT, ↓reduceIte, eq_self, and_self, and_true, true_and, and_false, false_and, if_true, if_false, ite_true, ite_false, sHush, neqT, neqF]; try omega
  · simp (disch := omega) only [su_ap, Nat.reduceAdd, Nat.reduceMul, Nat.reduceSub, Nat.reduceDiv, Nat.reduceMod, Nat.reducePow, Nat.reduceEqDiff, Nat.reduceLT, ↓reduceIte, eq_self, and_self, and_true, true_and, and_false, false_and, if_true, if_false, ite_true, ite_false, sHush, neqT, neqF]; try omega
  · intro j hj
    simp only [su_ap, Nat.reduceAdd, Nat.reduceMul, Nat.reduceSub, Nat.reduceDiv, Nat.reduceMod, Nat.reducePow, Nat.reduceEqDiff, Nat.reduceLT, ↓reduceIte, eq_self, and_self, and_true, true_and, and_false, false_and, if_true, if_false, ite_true, ite_false, sHush] at hj
    try simp only [su_ap, Nat.reduceAdd, Nat.reduceMul, Nat.reduceSub, Nat.reduceDiv, Nat.reduceMod, Nat.reducePow, Nat.reduceEqDiff, Nat.reduceLT, ↓reduceIte, eq_self, and_self, and_true, true_and, and_false, false_and, if_true, if_false, ite_true, ite_false, sHush]
    by_cases q : j = 0
    · try subst q
      try simp only [su_ap, Nat.reduceAdd, Nat.reduceMul, Nat.reduceSub, Nat.reduceDiv, Nat.reduceMod, Nat.reducePow, Nat.reduceEqDiff, Nat.reduceLT, ↓reduceIte, eq_self, and_self, and_true, true_and, and_false, false_and, if_true, if_false, ite_true, ite_false, sHush]
      first
        | omega
        | (have w := z6 _ (by omega); omega)
        | (have w := z6 _ (by omega); simp (disch := omega) only [su_ap, Nat.reduceAdd, Nat.reduceMul, Nat.reduceSub, Nat.reduceDiv, Nat.reduceMod, Nat.reducePow, Nat.reduceEqDiff, Nat.reduceLT, ↓reduceIte, eq_self, and_self, and_true, true_and, and_false, false_and, if_true, if_false, ite_true, ite_false, sHush, neqT, neqF]; omega)
        | (simp (disch := omega) only [su_ap, Nat.reduceAdd, Nat.reduceMul, Nat.reduceSub, Nat.reduceDiv, Nat.reduceMod, Nat.reducePow, Nat.reduceEqDiff, Nat.reduceLT, ↓reduceIte, eq_self, and_self, and_true, true_and, and_false, false_and, if_true, if_false, ite_true, ite_false, sHush, neqT, neqF]; omega)
    · try simp (disch := omega) only [su_ap, Nat.reduceAdd, Nat.reduceMul, Nat.reduceSub, Nat.reduceDiv, Nat.reduceMod, Nat.reducePow, Nat.reduceEqDiff, Nat.reduceLT, ↓reduceIte, eq_self, and_self, and_true, true_and, and_false, false_and, if_true, if_false, ite_true, ite_false, sHush, neqT, neqF]
      first
        | omega
        | (have w := z6 j (by omega); omega)
  · intro j hj
    simp only [su_ap, Nat.reduceAdd, Nat.reduceMul, Nat.reduceSub, Nat.reduceDiv, Nat.reduceMod, Nat.reducePow, Nat.reduceEqDiff, Nat.reduceLT, ↓reduceIte, eq_self, and_self, and_true, true_and, and_false, false_and, if_true, if_false, ite_true, ite_false, sHush] at hj
    try simp only [su_ap, Nat.reduceAdd, Nat.reduceMul, Nat.reduceSub, Nat.reduceDiv, Nat.reduceMod, Nat.reducePow, Nat.reduceEqDiff, Nat.reduceLT, ↓reduceIte, eq_self, and_self, and_true, true_and, and_false, false_and, if_true, if_false, ite_true, ite_false, sHush]
    by_cases q : j = 0
    · try subst q
      try simp only [su_ap, Nat.reduceAdd, Nat.reduceMul, Nat.reduceSub, Nat.reduceDiv, Nat.reduceMod, Nat.reducePow, Nat.reduceEqDiff, Nat.reduceLT, ↓reduceIte, eq_self, and_self, and_true, true_and, and_false, false_and, if_true, if_false, ite_true, ite_false, sHush]
      first
        | omega
        | (have w := z7 _ (by omega); omega)
        | (have w := z7 _ (by omega); simp (disch := omega) only [su_ap, Nat.reduceAdd, Nat.reduceMul, Nat.reduceSub, Nat.reduceDiv, Nat.reduceMod, Nat.reducePow, Nat.reduceEqDiff, Nat.reduceLT, ↓reduceIte, eq_self, and_self, and_true, true_and, and_false, false_and, if_true, if_false, ite_true, ite_false, sHush, neqT, neqF]; omega)
        | (simp (disch := omega) only [su_ap, Nat.reduceAdd, Nat.reduceMul, Nat.reduceSub, Nat.reduceDiv, Nat.reduceMod, Nat.reducePow, Nat.reduceEqDiff, Nat.reduceLT, ↓reduceIte, eq_self, and_self, and_true, true_and, and_false, false_and, if_true, if_false, ite_true, ite_false, sHush, neqT, neqF]; omega)
    · try simp (disch := omega) only [su_ap, Nat.reduceAdd, Nat.reduceMul, Nat.reduceSub, Nat.reduceDiv, Nat.reduceMod, Nat.reducePow, Nat.reduceEqDiff, Nat.reduceLT, ↓reduceIte, eq_self, and_self, and_true, true_and, and_false, false_and, if_true, if_false, ite_true, ite_false, sHush, neqT, neqF]
      first
        | omega
        | (have w := z7 j (by omega); omega)
  · simp (disch := omega) only [su_ap, Nat.reduceAdd, Nat.reduceMul, Nat.reduceSub, Nat.reduceDiv, Nat.reduceMod, Nat.reducePow, Nat.reduceEqDiff, Nat.reduceLT, ↓reduceIte, eq_self, and_self, and_true, true_and, and_false, false_and, if_true, if_false, ite_true, ite_false, sHush, neqT, neqF]; try omega
  · simp (disch := omega) only [su_ap, Nat.reduceAdd, Nat.reduceMul, Nat.reduceSub, Nat.reduceDiv, Nat.reduceMod, Nat.reducePow, Nat.reduceEqDiff, Nat.reduceLT, ↓reduceIte, eq_self, and_self, and_true, true_and, and_false, false_and, if_true, if_false, ite_true, ite_false, sHush, neqT, neqF]; try omega
  · simp (disch := omega) only [su_ap, Nat.reduceAdd, Nat.reduceMul, Nat.reduceSub, Nat.reduceDiv, Nat.reduceMod, Nat.reducePow, Nat.reduceEqDiff, Nat.reduceLT, ↓reduceIte, eq_self, and_self, and_true, true_and, and_false, false_and, if_true, if_false, ite_true, ite_false, sHush, neqT, neqF]; try omega
  · intro j hj
    simp only [su_ap, Nat.reduceAdd, Nat.reduceMul, Nat.reduceSub, Nat.reduceDiv, Nat.reduceMod, Nat.reducePow, Nat.reduceEqDiff, Nat.reduceLT, ↓reduceIte, eq_self, and_self, and_true, true_and, and_false, false_and, if_true, if_false, ite_true, ite_false, sHush] at hj
    try simp only [su_ap, Nat.reduceAdd, Nat.reduceMul, Nat.reduceSub, Nat.reduceDiv, Nat.reduceMod, Nat.reducePow, Nat.reduceEqDiff, Nat.reduceLT, ↓reduceIte, eq_self, and_self, and_true, true_and, and_false, false_and, if_true, if_false, ite_true, ite_false, sHush]
    by_cases q : j = 0
    · try subst q
      try simp only [su_ap, Nat.reduceAdd, Nat.reduceMul, Nat.reduceSub, Nat.reduceDiv, Nat.reduceMod, Nat.reducePow, Nat.reduceEqDiff, Nat.reduceLT, ↓reduceIte, eq_self, and_self, and_true, true_and, and_false, false_and, if_true, if_false, ite_true, ite_false, sHush]
      first
        | omega
        | (have w := n3 _ (by omega); omega)
        | (have w := n3 _ (by omega); simp (disch := omega) only [su_ap, Nat.reduceAdd, Nat.reduceMul, Nat.reduceSub, Nat.reduceDiv, Nat.reduceMod, Nat.reducePow, Nat.reduceEqDiff, Nat.reduceLT, ↓reduceIte, eq_self, and_self, and_true, true_and, and_false, false_and, if_true, if_false, ite_true, ite_false, sHush, neqT, neqF]; omega)
        | (simp (disch := omega) only [su_ap, Nat.reduceAdd, Nat.reduceMul, Nat.reduceSub, Nat.reduceDiv, Nat.reduceMod, Nat.reducePow, Nat.reduceEqDiff, Nat.reduceLT, ↓reduceIte, eq_self, and_self, and_true, true_and, and_false, false_and, if_true, if_false, ite_true, ite_false, sHush, neqT, neqF]; omega)
    · try simp (disch := omega) only [su_ap, Nat.reduceAdd, Nat.reduceMul, Nat.reduceSub, Nat.reduceDiv, Nat.reduceMod, Nat.reducePow, Nat.reduceEqDiff, Nat.reduceLT, ↓reduceIte, eq_self, and_self, and_true, true_and, and_false, false_and, if_true, if_false, ite_true, ite_false, sHush, neqT, neqF]
      first
        | omega
        | (have w := n3 j (by omega); omega)
  · intro j hj
    simp only [su_ap, Nat.reduceAdd, Nat.reduceMul, Nat.reduceSub, Nat.reduceDiv, Nat.reduceMod, Nat.reducePow, Nat.reduceEqDiff, Nat.reduceLT, ↓reduceIte, eq_self, and_self, and_true, true_and, and_false, false_and, if_true, if_false, ite_true, ite_false, sHush] at hj
    try simp only [su_ap, Nat.reduceAdd, Nat.reduceMul, Nat.reduceSub, Nat.reduceDiv, Nat.reduceMod, Nat.reducePow, Nat.reduceEqDiff, Nat.reduceLT, ↓reduceIte, eq_self, and_self, and_true, true_and, and_false, false_and, if_true, if_false, ite_true, ite_false, sHush]
    by_cases q : j = 0
    · try subst q
      try simp only [su_ap, Nat.reduceAdd, Nat.reduceMul, Nat.reduceSub, Nat.reduceDiv, Nat.reduceMod, Nat.reducePow, Nat.reduceEqDiff, Nat.reduceLT, ↓reduceIte, eq_self, and_self, and_true, true_and, and_false, false_and, if_true, if_false, ite_true, ite_false, sHush]
      first
        | omega
        | (have w := n4 _ (by omega); omega)
        | (have w := n4 _ (by omega); simp (disch := omega) only [su_ap, Nat.reduceAdd, Nat.reduceMul, Nat.reduceSub, Nat.reduceDiv, Nat.reduceMod, Nat.reducePow, Nat.reduceEqDiff, Nat.reduceLT, ↓reduceIte, eq_self, and_self, and_true, true_and, and_false, false_and, if_true, if_false, ite_true, ite_false, sHush, neqT, neqF]; omega)
        | (simp (disch := omega) only [su_ap, Nat.reduceAdd, Nat.reduceMul, Nat.reduceSub, Nat.reduceDiv, Nat.reduceMod, Nat.reducePow, Nat.reduceEqDiff, Nat.reduceLT, ↓reduceIte, eq_self, and_self, and_true, true_and, and_false, false_and, if_true, if_false, ite_true, ite_false, sHush, neqT, neqF]; omega)
    · try simp (disch := omega) only [su_ap, Nat.reduceAdd, Nat.reduceMul, Nat.reduceSub, Nat.reduceDiv, Nat.reduceMod, Nat.reducePow, Nat.reduceEqDiff, Nat.reduceLT, ↓reduceIte, eq_self, and_self, and_true, true_and, and_false, false_and, if_true, if_false, ite_true, ite_false, sHush, neqT, neqF]
      first
        | omega
        | (have w := n4 j (by omega); omega)
  · exact z9
  · intro j hj
    simp only [su_ap, Nat.reduceAdd, Nat.reduceMul, Nat.reduceSub, Nat.reduceDiv, Nat.reduceMod, Nat.reducePow, Nat.reduceEqDiff, Nat.reduceLT, ↓reduceIte, eq_self, and_self, and_true, true_and, and_false, false_and, if_true, if_false, ite_true, ite_false, sHush] at hj
    try simp only [su_ap, Nat.reduceAdd, Nat.reduceMul, Nat.reduceSub, Nat.reduceDiv, Nat.reduceMod, Nat.reducePow, Nat.reduceEqDiff, Nat.reduceLT, ↓reduceIte, eq_self, and_self, and_true, true_and, and_false, false_and, if_true, if_false, ite_true, ite_false, sHush]
    by_cases q : j = 0
    · try subst q
      try simp only [su_ap, Nat.reduceAdd, Nat.reduceMul, Nat.reduceSub, Nat.reduceDiv, Nat.reduceMod, Nat.reducePow, Nat.reduceEqDiff, Nat.reduceLT, ↓reduceIte, eq_self, and_self, and_true, true_and, and_false, false_and, if_true, if_false, ite_true, ite_false, sHush]
      first
        | omega
        | (have w := z10 _ (by omega); omega)
        | (have w := z10 _ (by omega); simp (disch := omega) only [su_ap, Nat.reduceAdd, Nat.reduceMul, Nat.reduceSub, Nat.reduceDiv, Nat.reduceMod, Nat.reducePow, Nat.reduceEqDiff, Nat.reduceLT, ↓reduceIte, eq_self, and_self, and_true, true_and, and_false, false_and, if_true, if_false, ite_true, ite_false, sHush, neqT, neqF]; omega)
        | (simp (disch := omega) only [su_ap, Nat.reduceAdd, Nat.reduceMul, Nat.reduceSub, Nat.reduceDiv, Nat.reduceMod, Nat.reducePow, Nat.reduceEqDiff, Nat.reduceLT, ↓reduceIte, eq_self, and_self, and_true, true_and, and_false, false_and, if_true, if_false, ite_true, ite_false, sHush, neqT, neqF]; omega)
    · try simp (disch := omega) only [su_ap, Nat.reduceAdd, Nat.reduceMul, Nat.reduceSub, Nat.reduceDiv, Nat.reduceMod, Nat.reducePow, Nat.reduceEqDiff, Nat.reduceLT, ↓reduceIte, eq_self, and_self, and_true, true_and, and_false, false_and, if_true, if_false, ite_true, ite_false, sHush, neqT, neqF]
      first
        | omega
        | (have w := z10 j (by omega); omega)
  · exact z11
  · intro j hj
    simp only [su_ap, Nat.reduceAdd, Nat.reduceMul, Nat.reduceSub, Nat.reduceDiv, Nat.reduceMod, Nat.reducePow, Nat.reduceEqDiff, Nat.reduceLT, ↓reduceIte, eq_self, and_self, and_true, true_and, and_false, false_and, if_true, if_false, ite_true, ite_false, sHush] at hj
    try simp only [su_ap, Nat.reduceAdd, Nat.reduceMul, Nat.reduceSub, Nat.reduceDiv, Nat.reduceMod, Nat.reducePow, Nat.reduceEqDiff, Nat.reduceLT, ↓reduceIte, eq_self, and_self, and_true, true_and, and_false, false_and, if_true, if_false, ite_true, ite_false, sHush]
    by_cases q : j = 0
    · try subst q
      try simp only [su_ap, Nat.reduceAdd, Nat.reduceMul, Nat.reduceSub, Nat.reduceDiv, Nat.reduceMod, Nat.reducePow, Nat.reduceEqDiff, Nat.reduceLT, ↓reduceIte, eq_self, and_self, and_true, true_and, and_false, false_and, if_true, if_false, ite_true, ite_false, sHush]
      first
        | omega
        | (have w := z12 _ (by omega); omega)
        | (have w := z12 _ (by omega); simp (disch := omega) only [su_ap, Nat.reduceAdd, Nat.reduceMul, Nat.reduceSub, Nat.reduceDiv, Nat.reduceMod, Nat.reducePow, Nat.reduceEqDiff, Nat.reduceLT, ↓reduceIte, eq_self, and_self, and_true, true_and, and_false, false_and, if_true, if_false, ite_true, ite_false, sHush, neqT, neqF]; omega)
        | (simp (disch := omega) only [su_ap, Nat.reduceAdd, Nat.reduceMul, Nat.reduceSub, Nat.reduceDiv, Nat.reduceMod, Nat.reducePow, Nat.reduceEqDiff, Nat.reduceLT, ↓reduceIte, eq_self, and_self, and_true, true_and, and_false, false_and, if_true, if_false, ite_true, ite_false, sHush, neqT, neqF]; omega)
    · try simp (disch := omega) only [su_ap, Nat.reduceAdd, Nat.reduceMul, Nat.reduceSub, Nat.reduceDiv, Nat.reduceMod, Nat.reducePow, Nat.reduceEqDiff, Nat.reduceLT, ↓reduceIte, eq_self, and_self, and_true, true_and, and_false, false_and, if_true, if_false, ite_true, ite_false, sHush, neqT, neqF]
      first
        | omega
        | (have w := z12 j (by omega); omega)
  · intro j hj
    simp only [su_ap, Nat.reduceAdd, Nat.reduceMul, Nat.reduceSub, Nat.reduceDiv, Nat.reduceMod, Nat.reducePow, Nat.reduceEqDiff, Nat.reduceLT, ↓reduceIte, eq_self, and_self, and_true, true_and, and_false, false_and, if_true, if_false, ite_true, ite_false, sHush] at hj
    try simp only [su_ap, Nat.reduceAdd, Nat.reduceMul, Nat.reduceSub, Nat.reduceDiv, Nat.reduceMod, Nat.reducePow, Nat.reduceEqDiff, Nat.reduceLT, ↓reduceIte, eq_self, and_self, and_true, true_and, and_false, false_and, if_true, if_false, ite_true, ite_false, sHush]
    by_cases q : j = 0
    · try subst q
      try simp only [su_ap, Nat.reduceAdd, Nat.reduceMul, Nat.reduceSub, Nat.reduceDiv, Nat.reduceMod, Nat.reducePow, Nat.reduceEqDiff, Nat.reduceLT, ↓reduceIte, eq_self, and_self, and_true, true_and, and_false, false_and, if_true, if_false, ite_true, ite_false, sHush]
      first
        | omega
        | (have w := z13 _ (by omega); omega)
        | (have w := z13 _ (by omega); simp (disch := omega) only [su_ap, Nat.reduceAdd, Nat.reduceMul, Nat.reduceSub, Nat.reduceDiv, Nat.reduceMod, Nat.reducePow, Nat.reduceEqDiff, Nat.reduceLT, ↓reduceIte, eq_self, and_self, and_true, true_and, and_false, false_and, if_true, if_false, ite_true, ite_false, sHush, neqT, neqF]; omega)
        | (simp (disch := omega) only [su_ap, Nat.reduceAdd, Nat.reduceMul, Nat.reduceSub, Nat.reduceDiv, Nat.reduceMod, Nat.reducePow, Nat.reduceEqDiff, Nat.reduceLT, ↓reduceIte, eq_self, and_self, and_true, true_and, and_false, false_and, if_true, if_false, ite_true, ite_false, sHush, neqT, neqF]; omega)
    · try simp (disch := omega) only [su_ap, Nat.reduceAdd, Nat.reduceMul, Nat.reduceSub, Nat.reduceDiv, Nat.reduceMod, Nat.reducePow, Nat.reduceEqDiff, Nat.reduceLT, ↓reduceIte, eq_self, and_self, and_true, true_and, and_false, false_and, if_true, if_false, ite_true, ite_false, sHush, neqT, neqF]
      first
        | omega
        | (have w := z13 j (by omega); omega)
set_option maxHeartbeats 1000000 in
theorem sok_law {t : Nat} {S : eS} (hs : sok t S) {a c : Nat} (ha : a < 4) (hc : c < 28) (hp : S 8 a < 8) : sok t (sLaw S a c) := by
  obtain ⟨z0, z1, z2, z3, z4, z5, z6, z7, ⟨n0, n1, n2, n3, n4⟩, z9, z10, z11, z12, z13⟩ := hs
  refine ⟨?_, ?_, ?_, ?_, ?_, ?_, ?_, ?_, ⟨?_, ?_, ?_, ?_, ?_⟩, ?_, ?_, ?_, ?_, ?_⟩
  · simp (disch := omega) only [su_ap, Nat.reduceAdd, Nat.reduceMul, Nat.reduceSub, Nat.reduceDiv, Nat.reduceMod, Nat.reducePow, Nat.reduceEqDiff, Nat.reduceLT, ↓reduceIte, eq_self, and_self, and_true, true_and, and_false, false_and, if_true, if_false, ite_true, ite_false, sLaw, neqT, neqF]; try omega
  · simp (disch := omega) only [su_ap, Nat.reduceAdd, Nat.reduceMul, Nat.reduceSub, Nat.reduceDiv, Nat.reduceMod, Nat.reducePow, Nat.reduceEqDiff, Nat.reduceLT, ↓reduceIte, eq_self, and_self, and_true, true_and, and_false, false_and, if_true, if_false, ite_true, ite_false, sLaw, neqT, neqF]; try omega
  · simp (disch := omega) only [su_ap, Nat.reduceAdd, Nat.reduceMul, Nat.reduceSub, Nat.reduceDiv, Nat.reduceMod, Nat.reducePow, Nat.reduceEqDiff, Nat.reduceLT, ↓reduceIte, eq_self, and_self, and_true, true_and, and_false, false_and, if_true, if_false, ite_true, ite_false, sLaw, neqT, neqF]; try omega
  · simp (disch := omega) only [su_ap, Nat.reduceAdd, Nat.reduceMul, Nat.reduceSub, Nat.reduceDiv, Nat.reduceMod, Nat.reducePow, Nat.reduceEqDiff, Nat.reduceLT, ↓reduceIte, eq_self, and_self, and_true, true_and, and_false, false_and, if_true, if_false, ite_true, ite_false, sLaw, neqT, neqF]; try omega
  · simp (disch := omega) only [su_ap, Nat.reduceAdd, Nat.reduceMul, Nat.reduceSub, Nat.reduceDiv, Nat.reduceMod, Nat.reducePow, Nat.reduceEqDiff, Nat.reduceLT, ↓reduceIte, eq_self, and_self, and_true, true_and, and_false, false_and, if_true, if_false, ite_true, ite_false, sLaw, neqT, neqF]; try omega
  · simp (disch := omega) only [su_ap, Nat.reduceAdd, Nat.reduceMul, Nat.reduceSub, Nat.reduceDiv, Nat.reduceMod, Nat.reducePow, Nat.reduceEqDiff, Nat.reduceLT, ↓reduceIte, eq_self, and_self, and_true, true_and, and_false, false_and, if_true, if_false, ite_true, ite_false, sLaw, neqT, neqF]; try omega
  · intro j hj
    simp only [su_ap, Nat.reduceAdd, Nat.reduceMul, Nat.reduceSub, Nat.reduceDiv, Nat.reduceMod, Nat.reducePow, Nat.reduceEqDiff, Nat.reduceLT, ↓reduceIte, eq_self, and_self, and_true, true_and, and_false, false_and, if_true, if_false, ite_true, ite_false, sLaw] at hj
    try simp only [su_ap, Nat.reduceAdd, Nat.reduceMul, Nat.reduceSub, Nat.reduceDiv, Nat.reduceMod, Nat.reducePow, Nat.reduceEqDiff, Nat.reduceLT, ↓reduceIte, eq_self, and_self, and_true, true_and, and_false, false_and, if_true, if_false, ite_true, ite_false, sLaw]
    by_cases q : j = 0
    · try subst q
      try simp only [su_ap, Nat.reduceAdd, Nat.reduceMul, Nat.reduceSub, Nat.reduceDiv, Nat.reduceMod, Nat.reducePow, Nat.reduceEqDiff, Nat.reduceLT, ↓reduceIte, eq_self, and_self, and_true, true_and, and_false, false_and, if_true, if_false, ite_true, ite_false, sLaw]
      first
        | omega
        | (have w := z6 _ (by omega); omega)
        | (have w := z6 _ (by omega); simp (disch := omega) only [su_ap, Nat.reduceAdd, Nat.reduceMul, Nat.reduceSub, Nat.reduceDiv, Nat.reduceMod, Nat.reducePow, Nat.reduceEqDiff, Nat.reduceLT, ↓reduceIte, eq_self, and_self, and_true, true_and, and_false, false_and, if_true, if_false, ite_true, ite_false, sLaw, neqT, neqF]; omega)
        | (simp (disch := omega) only [su_ap, Nat.reduceAdd, Nat.reduceMul, Nat.reduceSub, Nat.reduceDiv, Nat.reduceMod, Nat.reducePow, Nat.reduceEqDiff, Nat.reduceLT, ↓reduceIte, eq_self, and_self, and_true, true_and, and_false, false_and, if_true, if_false, ite_true, ite_false, sLaw, neqT, neqF]; omega)
    · try simp (disch := omega) only [su_ap, Nat.reduceAdd, Nat.reduceMul, Nat.reduceSub, Nat.reduceDiv, Nat.reduceMod, Nat.reducePow, Nat.reduceEqDiff, Nat.reduceLT, ↓reduceIte, eq_self, and_self, and_true, true_and, and_false, false_and, if_true, if_false, ite_true, ite_false, sLaw, neqT, neqF]
      first
        | omega
        | (have w := z6 j (by omega); omega)
  · intro j hj
    simp only [su_ap, Nat.reduceAdd, Nat.reduceMul, Nat.reduceSub, Nat.reduceDiv, Nat.reduceMod, Nat.reducePow, Nat.reduceEqDiff, Nat.reduceLT, ↓reduceIte, eq_self, and_self, and_true, true_and, and_false, false_and, if_true, if_false, ite_true, ite_false, sLaw] at hj
    try simp only [su_ap, Nat.reduceAdd, Nat.reduceMul, Nat.reduceSub, Nat.reduceDiv, Nat.reduceMod, Nat.reducePow, Nat.reduceEqDiff, Nat.reduceLT, ↓reduceIte, eq_self, and_self, and_true, true_and, and_false, false_and, if_true, if_false, ite_true, ite_false, sLaw]
    by_cases q : j = 0
    · try subst q
      try simp only [su_ap, Nat.reduceAdd, Nat.reduceMul, Nat.reduceSub, Nat.reduceDiv, Nat.reduceMod, Nat.reducePow, Nat.reduceEqDiff, Nat.reduceLT, ↓reduceIte, eq_self, and_self, and_true, true_and, and_false, false_and, if_true, if_false, ite_true, ite_false, sLaw]
      first
        | omega
        | (have w := z7 _ (by omega); omega)
        | (have w := z7 _ (by omega); simp (disch := omega) only [su_ap, Nat.reduceAdd, Nat.reduceMul, Nat.reduceSub, Nat.reduceDiv, Nat.reduceMod, Nat.reducePow, Nat.reduceEqDiff, Nat.reduceLT, ↓reduceIte, eq_self, and_self, and_true, true_and, and_false, false_and, if_true, if_false, ite_true, ite_false, sLaw, neqT, neqF]; omega)
        | (simp (disch := omega) only [su_ap, Nat.reduceAdd, Nat.reduceMul, Nat.reduceSub, Nat.reduceDiv, Nat.reduceMod, Nat.reducePow, Nat.reduceEqDiff, Nat.reduceLT, ↓reduceIte, eq_self, and_self, and_true, true_and, and_false, false_and, if_true, if_false, ite_true, ite_false, sLaw, neqT, neqF]; omega)
    · try simp (disch := omega) only [su_ap, Nat.reduceAdd, Nat.reduceMul, Nat.reduceSub, Nat.reduceDiv, Nat.reduceMod, Nat.reducePow, Nat.reduceEqDiff, Nat.reduceLT, ↓reduceIte, eq_self, and_self, and_true, true_and, and_false, false_and, if_true, if_false, ite_true, ite_false, sLaw, neqT, neqF]
      first
        | omega
        | (have w := z7 j (by omega); omega)
  · simp (disch := omega) only [su_ap, Nat.reduceAdd, Nat.reduceMul, Nat.reduceSub, Nat.reduceDiv, Nat.reduceMod, Nat.reducePow, Nat.reduceEqDiff, Nat.reduceLT, ↓reduceIte, eq_self, and_self, and_true, true_and, and_false, false_and, if_true, if_false, ite_true, ite_false, sLaw, neqT, neqF]; try omega
  · simp (disch := omega) only [su_ap, Nat.reduceAdd, Nat.reduceMul, Nat.reduceSub, Nat.reduceDiv, Nat.reduceMod, Nat.reducePow, Nat.reduceEqDiff, Nat.reduceLT, ↓reduceIte, eq_self, and_self, and_true, true_and, and_false, false_and, if_true, if_false, ite_true, ite_false, sLaw, neqT, neqF]; try omega
  · simp (disch := omega) only [su_ap, Nat.reduceAdd, Nat.reduceMul, Nat.reduceSub, Nat.reduceDiv, Nat.reduceMod, Nat.reducePow, Nat.reduceEqDiff, Nat.reduceLT, ↓reduceIte, eq_self, and_self, and_true, true_and, and_false, false_and, if_true, if_false, ite_true, ite_false, sLaw, neqT, neqF]; try omega
  · intro j hj
    simp only [su_ap, Nat.reduceAdd, Nat.reduceMul, Nat.reduceSub, Nat.reduceDiv, Nat.reduceMod, Nat.reducePow, Nat.reduceEqDiff, Nat.reduceLT, ↓reduceIte, eq_self, and_self, and_true, true_and, and_false, false_and, if_true, if_false, ite_true, ite_false, sLaw] at hj
    try simp only [su_ap, Nat.reduceAdd, Nat.reduceMul, Nat.reduceSub, Nat.reduceDiv, Nat.reduceMod, Nat.reducePow, Nat.reduceEqDiff, Nat.reduceLT, ↓reduceIte, eq_self, and_self, and_true, true_and, and_false, false_and, if_true, if_false, ite_true, ite_false, sLaw]
    by_cases q : j = 0
    · try subst q
      try simp only [su_ap, Nat.reduceAdd, Nat.reduceMul, Nat.reduceSub, Nat.reduceDiv, Nat.reduceMod, Nat.reducePow, Nat.reduceEqDiff, Nat.reduceLT, ↓reduceIte, eq_self, and_self, and_true, true_and, and_false, false_and, if_true, if_false, ite_true, ite_false, sLaw]
      first
        | omega
        | (have w := n3 _ (by omega); omega)
        | (have w := n3 _ (by omega); simp (disch := omega) only [su_ap, Nat.reduceAdd, Nat.reduceMul, Nat.reduceSub, Nat.reduceDiv, Nat.reduceMod, Nat.reducePow, Nat.reduceEqDiff, Nat.reduceLT, ↓reduceIte, eq_self, and_self, and_true, true_and, and_false, false_and, if_true, if_false, ite_true, ite_false, sLaw, neqT, neqF]; omega)
        | (simp (disch := omega) only [su_ap, Nat.reduceAdd, Nat.reduceMul, Nat.reduceSub, Nat.reduceDiv, Nat.reduceMod, Nat.reducePow, Nat.reduceEqDiff, Nat.reduceLT, ↓reduceIte, eq_self, and_self, and_true, true_and, and_false, false_and, if_true, if_false, ite_true, ite_false, sLaw, neqT, neqF]; omega)
    · try simp (disch := omega) only [su_ap, Nat.reduceAdd, Nat.reduceMul, Nat.reduceSub, Nat.reduceDiv, Nat.reduceMod, Nat.reducePow, Nat.reduceEqDiff, Nat.reduceLT, ↓reduceIte, eq_self, and_self, and_true, true_and, and_false, false_and, if_true, if_false, ite_true, ite_false, sLaw, neqT, neqF]
      first
        | omega
        | (have w := n3 j (by omega); omega)
  · intro j hj
    simp only [su_ap, Nat.reduceAdd, Nat.reduceMul, Nat.reduceSub, Nat.reduceDiv, Nat.reduceMod, Nat.reducePow, Nat.reduceEqDiff, Nat.reduceLT, ↓reduceIte, eq_self, and_self, and_true, true_and, and_false, false_and, if_true, if_false, ite_true, ite_false, sLaw] at hj
    try simp only [su_ap, Nat.reduceAdd, Nat.reduceMul, Nat.reduceSub, Nat.reduceDiv, Nat.reduceMod, Nat.reducePow, Nat.reduceEqDiff, Nat.reduceLT, ↓reduceIte, eq_self, and_self, and_true, true_and, and_false, false_and, if_true, if_false, ite_true, ite_false, sLaw]
    by_cases q : j = 0
    · try subst q
      try simp only [su_ap, Nat.reduceAdd, Nat.reduceMul, Nat.reduceSub, Nat.reduceDiv, Nat.reduceMod, Nat.reducePow, Nat.reduceEqDiff, Nat.reduceLT, ↓reduceIte, eq_self, and_self, and_true, true_and, and_false, false_and, if_true, if_false, ite_true, ite_false, sLaw]
      first
        | omega
        | (have w := n4 _ (by omega); omega)
        | (have w := n4 _ (by omega); simp (disch := omega) only [su_ap, Nat.reduceAdd, Nat.reduceMul, Nat.reduceSub, Nat.reduceDiv, Nat.reduceMod, Nat.reducePow, Nat.reduceEqDiff, Nat.reduceLT, ↓reduceIte, eq_self, and_self, and_true, true_and, and_false, false_and, if_true, if_false, ite_true, ite_false, sLaw, neqT, neqF]; omega)
        | (simp (disch := omega) only [su_ap, Nat.reduceAdd, Nat.reduceMul, Nat.reduceSub, Nat.reduceDiv, Nat.reduceMod, Nat.reducePow, Nat.reduceEqDiff, Nat.reduceLT, ↓reduceIte, eq_self, and_self, and_true, true_and, and_false, false_and, if_true, if_false, ite_true, ite_false, sLaw, neqT, neqF]; omega)
    · try simp (disch := omega) only [su_ap, Nat.reduceAdd, Nat.reduceMul, Nat.reduceSub, Nat.reduceDiv, Nat.reduceMod, Nat.reducePow, Nat.reduceEqDiff, Nat.reduceLT, ↓reduceIte, eq_self, and_self, and_true, true_and, and_false, false_and, if_true, if_false, ite_true, ite_false, sLaw, neqT, neqF]
      first
        | omega
        | (have w := n4 j (by omega); omega)
  · exact z9
  · intro j hj
    simp only [su_ap, Nat.reduceAdd, Nat.reduceMul, Nat.reduceSub, Nat.reduceDiv, Nat.reduceMod, Nat.reducePow, Nat.reduceEqDiff, Nat.reduceLT, ↓reduceIte, eq_self, and_self, and_true, true_and, and_false, false_and, if_true, if_false, ite_true, ite_false, sLaw] at hj
    try simp only [su_ap, Nat.reduceAdd, Nat.reduceMul, Nat.reduceSub, Nat.reduceDiv, Nat.reduceMod, Nat.reducePow, Nat.reduceEqDiff, Nat.reduceLT, ↓reduceIte, eq_self, and_self, and_true, true_and, and_false, false_and, if_true, if_false, ite_true, ite_false, sLaw]
    by_cases q : j = 0
    · try subst q
      try simp only [su_ap, Nat.reduceAdd, Nat.reduceMul, Nat.reduceSub, Nat.reduceDiv, Nat.reduceMod, Nat.reducePow, Nat.reduceEqDiff, Nat.reduceLT, ↓reduceIte, eq_self, and_self, and_true, true_and, and_false, false_and, if_true, if_false, ite_true, ite_false, sLaw]
      first
        | omega
        | (have w := z10 _ (by omega); omega)
        | (have w := z10 _ (by omega); simp (disch := omega) only [su_ap, Nat.reduceAdd, Nat.reduceMul, Nat.reduceSub, Nat.reduceDiv, Nat.reduceMod, Nat.reducePow, Nat.reduceEqDiff, Nat.reduceLT, ↓reduceIte, eq_self, and_self, and_true, true_and, and_false, false_and, if_true, if_false, ite_true, ite_false, sLaw, neqT, neqF]; omega)
        | (simp (disch := omega) only [su_ap, Nat.reduceAdd, Nat.reduceMul, Nat.reduceSub, Nat.reduceDiv, Nat.reduceMod, Nat.reducePow, Nat.reduceEqDiff, Nat.reduceLT, ↓reduceIte, eq_self, and_self, and_true, true_and, and_false, false_and, if_true, if_false, ite_true, ite_false, sLaw, neqT, neqF]; omega)
    · try simp (disch := omega) only [su_ap, Nat.reduceAdd, Nat.reduceMul, Nat.reduceSub, Nat.reduceDiv, Nat.reduceMod, Nat.reducePow, Nat.reduceEqDiff, Nat.reduceLT, ↓reduceIte, eq_self, and_self, and_true, true_and, and_false, false_and, if_true, if_false, ite_true, ite_false, sLaw, neqT, neqF]
      first
        | omega
        | (have w := z10 j (by omega); omega)
  · intro i hi
    have w := z11 i hi
    refine ⟨?_, fun j hj => ?_⟩
    · simp only [su_ap, Nat.reduceAdd, Nat.reduceMul, Nat.reduceSub, Nat.reduceDiv, Nat.reduceMod, Nat.reducePow, Nat.reduceEqDiff, Nat.reduceLT, ↓reduceIte, eq_self, and_self, and_true, true_and, and_false, false_and, if_true, if_false, ite_true, ite_false, sLaw]
      by_cases q : i = a
      · rw [if_pos q]; omega
      · rw [if_neg q]; omega
    · simp only [su_ap, Nat.reduceAdd, Nat.reduceMul, Nat.reduceSub, Nat.reduceDiv, Nat.reduceMod, Nat.reducePow, Nat.reduceEqDiff, Nat.reduceLT, ↓reduceIte, eq_self, and_self, and_true, true_and, and_false, false_and, if_true, if_false, ite_true, ite_false, sLaw] at hj ⊢
      by_cases q : i = a
      · rw [if_pos q] at hj
        subst q
        by_cases q2 : j = S 8 i
        · subst q2; try simp only [su_ap, Nat.reduceAdd, Nat.reduceMul, Nat.reduceSub, Nat.reduceDiv, Nat.reduceMod, Nat.reducePow, Nat.reduceEqDiff, Nat.reduceLT, ↓reduceIte, eq_self, and_self, and_true, true_and, and_false, false_and, if_true, if_false, ite_true, ite_false, sLaw]
          omega
        · try rw [if_neg (by omega)]
          have w2 := w.2 j (by omega)
          omega
      · rw [if_neg q] at hj
        have w2 := w.2 j hj
        have w3 := z11 a ha
        try rw [if_neg (by omega)]
        omega
  · intro j hj
    simp only [su_ap, Nat.reduceAdd, Nat.reduceMul, Nat.reduceSub, Nat.reduceDiv, Nat.reduceMod, Nat.reducePow, Nat.reduceEqDiff, Nat.reduceLT, ↓reduceIte, eq_self, and_self, and_true, true_and, and_false, false_and, if_true, if_false, ite_true, ite_false, sLaw] at hj
    try simp only [su_ap, Nat.reduceAdd, Nat.reduceMul, Nat.reduceSub, Nat.reduceDiv, Nat.reduceMod, Nat.reducePow, Nat.reduceEqDiff, Nat.reduceLT, ↓reduceIte, eq_self, and_self, and_true, true_and, and_false, false_and, if_true, if_false, ite_true, ite_false, sLaw]
    by_cases q : j = 0
    · try subst q
      try simp only [su_ap, Nat.reduceAdd, Nat.reduceMul, Nat.reduceSub, Nat.reduceDiv, Nat.reduceMod, Nat.reducePow, Nat.reduceEqDiff, Nat.reduceLT, ↓reduceIte, eq_self, and_self, and_true, true_and, and_false, false_and, if_true, if_false, ite_true, ite_false, sLaw]
      first
        | omega
        | (have w := z12 _ (by omega); omega)
        | (have w := z12 _ (by omega); simp (disch := omega) only [su_ap, Nat.reduceAdd, Nat.reduceMul, Nat.reduceSub, Nat.reduceDiv, Nat.reduceMod, Nat.reducePow, Nat.reduceEqDiff, Nat.reduceLT, ↓reduceIte, eq_self, and_self, and_true, true_and, and_false, false_and, if_true, if_false, ite_true, ite_false, sLaw, neqT, neqF]; omega)
        | (simp (disch := omega) only [su_ap, Nat.reduceAdd, Nat.reduceMul, Nat.reduceSub, Nat.reduceDiv, Nat.reduceMod, Nat.reducePow, Nat.reduceEqDiff, Nat.reduceLT, ↓reduceIte, eq_self, and_self, and_true, true_and, and_false, false_and, if_true, if_false, ite_true, ite_false, sLaw, neqT, neqF]; omega)
    · try simp (disch := omega) only [su_ap, Nat.reduceAdd, Nat.reduceMul, Nat.reduceSub, Nat.reduceDiv, Nat.reduceMod, Nat.reducePow, Nat.reduceEqDiff, Nat.reduceLT, ↓reduceIte, eq_self, and_self, and_true, true_and, and_false, false_and, if_true, if_false, ite_true, ite_false, sLaw, neqT, neqF]
      first
        | omega
        | (have w := z12 j (by omega); omega)
  · intro j hj
    simp only [su_ap, Nat.reduceAdd, Nat.reduceMul, Nat.reduceSub, Nat.reduceDiv, Nat.reduceMod, Nat.reducePow, Nat.reduceEqDiff, Nat.reduceLT, ↓reduceIte, eq_self, and_self, and_true, true_and, and_false, false_and, if_true, if_false, ite_true, ite_false, sLaw] at hj
    try simp only [su_ap, Nat.reduceAdd, Nat.reduceMul, Nat.reduceSub, Nat.reduceDiv, Nat.reduceMod, Nat.reducePow, Nat.reduceEqDiff, Nat.reduceLT, ↓reduceIte, eq_self, and_self, and_true, true_and, and_false, false_and, if_true, if_false, ite_true, ite_false, sLaw]
    by_cases q : j = 0
    · try subst q
      try simp only [su_ap, Nat.reduceAdd, Nat.reduceMul, Nat.reduceSub, Nat.reduceDiv, Nat.reduceMod, Nat.reducePow, Nat.reduceEqDiff, Nat.reduceLT, ↓reduceIte, eq_self, and_self, and_true, true_and, and_false, false_and, if_true, if_false, ite_true, ite_false, sLaw]
      first
        | omega
        | (have w := z13 _ (by omega); omega)
        | (have w := z13 _ (by omega); simp (disch := omega) only [su_ap, Nat.reduceAdd, Nat.reduceMul, Nat.reduceSub, Nat.reduceDiv, Nat.reduceMod, Nat.reducePow, Nat.reduceEqDiff, Nat.reduceLT, ↓reduceIte, eq_self, and_self, and_true, true_and, and_false, false_and, if_true, if_false, ite_true, ite_false, sLaw, neqT, neqF]; omega)
        | (simp (disch := omega) only [su_ap, Nat.reduceAdd, Nat.reduceMul, Nat.reduceSub, Nat.reduceDiv, Nat.reduceMod, Nat.reducePow, Nat.reduceEqDiff, Nat.reduceLT, ↓reduceIte, eq_self, and_self, and_true, true_and, and_false, false_and, if_true, if_false, ite_true, ite_false, sLaw, neqT, neqF]; omega)
    · try simp (disch := omega) only [su_ap, Nat.reduceAdd, Nat.reduceMul, Nat.reduceSub, Nat.reduceDiv, Nat.reduceMod, Nat.reducePow, Nat.reduceEqDiff, Nat.reduceLT, ↓reduceIte, eq_self, and_self, and_true, true_and, and_false, false_and, if_true, if_false, ite_true, ite_false, sLaw, neqT, neqF]
      first
        | omega
        | (have w := z13 j (by omega); omega)
set_option maxHeartbeats 1000000 in
theorem sok_noLaw {t : Nat} {S : eS} (hs : sok t S) {a : Nat} (ha : a < 4) : sok t (sNoLaw S a) := by
  obtain ⟨z0, z1, z2, z3, z4, z5, z6, z7, ⟨n0, n1, n2, n3, n4⟩, z9, z10, z11, z12, z13⟩ := hs
  refine ⟨?_, ?_, ?_, ?_, ?_, ?_, ?_, ?_, ⟨?_, ?_, ?_, ?_, ?_⟩, ?_, ?_, ?_, ?_, ?_⟩
  · simp (disch := omega) only [su_ap, Nat.reduceAdd, Nat.reduceMul, Nat.reduceSub, Nat.reduceDiv, Nat.reduceMod, Nat.reducePow, Nat.reduceEqDiff, Nat.reduceLT, ↓reduceIte, eq_self, and_self, and_true, true_and, and_false, false_and, if_true, if_false, ite_true, ite_false, sNoLaw, neqT, neqF]; try omega
  · simp (disch := omega) only [su_ap, Nat.reduceAdd, Nat.reduceMul, Nat.reduceSub, Nat.reduceDiv, Nat.reduceMod, Nat.reducePow, Nat.reduceEqDiff, Nat.reduceLT, ↓reduceIte, eq_self, and_self, and_true, true_and, and_false, false_and, if_true, if_false, ite_true, ite_false, sNoLaw, neqT, neqF]; try omega
  · simp (disch := omega) only [su_ap, Nat.reduceAdd, Nat.reduceMul, Nat.reduceSub, Nat.reduceDiv, Nat.reduceMod, Nat.reducePow, Nat.reduceEqDiff, Nat.reduceLT, ↓reduceIte, eq_self, and_self, and_true, true_and, and_false, false_and, if_true, if_false, ite_true, ite_false, sNoLaw, neqT, neqF]; try omega
  · simp (disch := omega) only [su_ap, Nat.reduceAdd, Nat.reduceMul, Nat.reduceSub, Nat.reduceDiv, Nat.reduceMod, Nat.reducePow, Nat.reduceEqDiff, Nat.reduceLT, ↓reduceIte, eq_self, and_self, and_true, true_and, and_false, false_and, if_true, if_false, ite_true, ite_false, sNoLaw, neqT, neqF]; try omega
  · simp (disch := omega) only [su_ap, Nat.reduceAdd, Nat.reduceMul, Nat.reduceSub, Nat.reduceDiv, Nat.reduceMod, Nat.reducePow, Nat.reduceEqDiff, Nat.reduceLT, ↓reduceIte, eq_self, and_self, and_true, true_and, and_false, false_and, if_true, if_false, ite_true, ite_false, sNoLaw, neqT, neqF]; try omega
  · simp (disch := omega) only [su_ap, Nat.reduceAdd, Nat.reduceMul, Nat.reduceSub, Nat.reduceDiv, Nat.reduceMod, Nat.reducePow, Nat.reduceEqDiff, Nat.reduceLT, ↓reduceIte, eq_self, and_self, and_true, true_and, and_false, false_and, if_true, if_false, ite_true, ite_false, sNoLaw, neqT, neqF]; try omega
  · intro j hj
    simp only [su_ap, Nat.reduceAdd, Nat.reduceMul, Nat.reduceSub, Nat.reduceDiv, Nat.reduceMod, Nat.reducePow, Nat.reduceEqDiff, Nat.reduceLT, ↓reduceIte, eq_self, and_self, and_true, true_and, and_false, false_and, if_true, if_false, ite_true, ite_false, sNoLaw] at hj
    try simp only [su_ap, Nat.reduceAdd, Nat.reduceMul, Nat.reduceSub, Nat.reduceDiv, Nat.reduceMod, Nat.reducePow, Nat.reduceEqDiff, Nat.reduceLT, ↓reduceIte, eq_self, and_self, and_true, true_and, and_false, false_and, if_true, if_false, ite_true, ite_false, sNoLaw]
    by_cases q : j = 0
    · try subst q
      try simp only [su_ap, Nat.reduceAdd, Nat.reduceMul, Nat.reduceSub, Nat.reduceDiv, Nat.reduceMod, Nat.reducePow, Nat.reduceEqDiff, Nat.reduceLT, ↓reduceIte, eq_self, and_self, and_true, true_and, and_false, false_and, if_true, if_false, ite_true, ite_false, sNoLaw]
      first
        | omega
        | (have w := z6 _ (by omega); omega)
        | (have w := z6 _ (by omega); simp (disch := omega) only [su_ap, Nat.reduceAdd, Nat.reduceMul, Nat.reduceSub, Nat.reduceDiv, Nat.reduceMod, Nat.reducePow, Nat.reduceEqDiff, Nat.reduceLT, ↓reduceIte, eq_self, and_self, and_true, true_and, and_false, false_and, if_true, if_false, ite_true, ite_false, sNoLaw, neqT, neqF]; omega)
        | (simp (disch := omega) only [su_ap, Nat.reduceAdd, Nat.reduceMul, Nat.reduceSub, Nat.reduceDiv, Nat.reduceMod, Nat.reducePow, Nat.reduceEqDiff, Nat.reduceLT, ↓reduceIte, eq_self, and_self, and_true, true_and, and_false, false_and, if_true, if_false, ite_true, ite_false, sNoLaw, neqT, neqF]; omega)
    · try simp (disch := omega) only [su_ap, Nat.reduceAdd, Nat.reduceMul, Nat.reduceSub, Nat.reduceDiv, Nat.reduceMod, Nat.reducePow, Nat.reduceEqDiff, Nat.reduceLT, ↓reduceIte, eq_self, and_self, and_true, true_and, and_false, false_and, if_true, if_false, ite_true, ite_false, sNoLaw, neqT, neqF]
      first
        | omega
        | (have w := z6 j (by omega); omega)
  · intro j hj
    simp only [su_ap, Nat.reduceAdd, Nat.reduceMul, Nat.reduceSub, Nat.reduceDiv, Nat.reduceMod, Nat.reducePow, Nat.reduceEqDiff, Nat.reduceLT, ↓reduceIte, eq_self, and_self, and_true, true_and, and_false, false_and, if_true, if_false, ite_true, ite_false, sNoLaw] at hj
    try simp only [su_ap, Nat.reduceAdd, Nat.reduceMul, Nat.reduceSub, Nat.reduceDiv, Nat.reduceMod, Nat.reducePow, Nat.reduceEqDiff, Nat.reduceLT, ↓reduceIte, eq_self, and_self, and_true, true_and, and_false, false_and, if_true, if_false, ite_true, ite_false, sNoLaw]
    by_cases q : j = 0
    · try subst q
      try simp only [su_ap, Nat.reduceAdd, Nat.reduceMul, Nat.reduceSub, Nat.reduceDiv, Nat.reduceMod, Nat.reducePow, Nat.reduceEqDiff, Nat.reduceLT, ↓reduceIte, eq_self, and_self, and_true, true_and, and_false, false_and, if_true, if_false, ite_true, ite_false, sNoLaw]
      first
        | omega
        | (have w := z7 _ (by omega); omega)
        | (have w := z7 _ (by omega); simp (disch := omega) only [su_ap, Nat.reduceAdd, Nat.reduceMul, Nat.reduceSub, Nat.reduceDiv, Nat.reduceMod, Nat.reducePow, Nat.reduceEqDiff, Nat.reduceLT, ↓reduceIte, eq_self, and_self, and_true, true_and, and_false, false_and, if_true, if_false, ite_true, ite_false, sNoLaw, neqT, neqF]; omega)
        | (simp (disch := omega) only [su_ap, Nat.reduceAdd, Nat.reduceMul, Nat.reduceSub, Nat.reduceDiv, Nat.reduceMod, Nat.reducePow, Nat.reduceEqDiff, Nat.reduceLT, ↓reduceIte, eq_self, and_self, and_true, true_and, and_false, false_and, if_true, if_false, ite_true, ite_false, sNoLaw, neqT, neqF]; omega)
    · try simp (disch := omega) only [su_ap, Nat.reduceAdd, Nat.reduceMul, Nat.reduceSub, Nat.reduceDiv, Nat.reduceMod, Nat.reducePow, Nat.reduceEqDiff, Nat.reduceLT, ↓reduceIte, eq_self, and_self, and_true, true_and, and_false, false_and, if_true, if_false, ite_true, ite_false, sNoLaw, neqT, neqF]
      first
        | omega
        | (have w := z7 j (by omega); omega)
  · simp (disch := omega) only [su_ap, Nat.reduceAdd, Nat.reduceMul, Nat.reduceSub, Nat.reduceDiv, Nat.reduceMod, Nat.reducePow, Nat.reduceEqDiff, Nat.reduceLT, ↓reduceIte, eq_self, and_self, and_true, true_and, and_false, false_and, if_true, if_false, ite_true, ite_false, sNoLaw, neqT, neqF]; try omega
  · simp (disch := omega) only [su_ap, Nat.reduceAdd, Nat.reduceMul, Nat.reduceSub, Nat.reduceDiv, Nat.reduceMod, Nat.reducePow, Nat.reduceEqDiff, Nat.reduceLT, ↓reduceIte, eq_self, and_self, and_true, true_and, and_false, false_and, if_true, if_false, ite_true, ite_false, sNoLaw, neqT, neqF]; try omega
  · simp (disch := omega) only [su_ap, Nat.reduceAdd, Nat.reduceMul, Nat.reduceSub, Nat.reduceDiv, Nat.reduceMod, Nat.reducePow, Nat.reduceEqDiff, Nat.reduceLT, ↓reduceIte, eq_self, and_self, and_true, true_and, and_false, false_and, if_true, if_false, ite_true, ite_false, sNoLaw, neqT, neqF]; try omega
  · intro j hj
    simp only [su_ap, Nat.reduceAdd, Nat.reduceMul, Nat.reduceSub, Nat.reduceDiv, Nat.reduceMod, Nat.reducePow, Nat.reduceEqDiff, Nat.reduceLT, ↓reduceIte, eq_self, and_self, and_true, true_and, and_false, false_and, if_true, if_false, ite_true, ite_false, sNoLaw] at hj
    try simp only [su_ap, Nat.reduceAdd, Nat.reduceMul, Nat.reduceSub, Nat.reduceDiv, Nat.reduceMod, Nat.reducePow, Nat.reduceEqDiff, Nat.reduceLT, ↓reduceIte, eq_self, and_self, and_true, true_and, and_false, false_and, if_true, if_false, ite_true, ite_false, sNoLaw]
    by_cases q : j = 0
    · try subst q
      try simp only [su_ap, Nat.reduceAdd, Nat.reduceMul, Nat.reduceSub, Nat.reduceDiv, Nat.reduceMod, Nat.reducePow, Nat.reduceEqDiff, Nat.reduceLT, ↓reduceIte, eq_self, and_self, and_true, true_and, and_false, false_and, if_true, if_false, ite_true, ite_false, sNoLaw]
      first
        | omega
        | (have w := n3 _ (by omega); omega)
        | (have w := n3 _ (by omega); simp (disch := omega) only [su_ap, Nat.reduceAdd, Nat.reduceMul, Nat.reduceSub, Nat.reduceDiv, Nat.reduceMod, Nat.reducePow, Nat.reduceEqDiff, Nat.reduceLT, ↓reduceIte, eq_self, and_self, and_true, true_and, and_false, false_and, if_true, if_false, ite_true, ite_false, sNoLaw, neqT, neqF]; omega)
        | (simp (disch := omega) only [su_ap, Nat.reduceAdd, Nat.reduceMul, Nat.reduceSub, Nat.reduceDiv, Nat.reduceMod, Nat.reducePow, Nat.reduceEqDiff, Nat.reduceLT, ↓reduceIte, eq_self, and_self, and_true, true_and, and_false, false_and, if_true, if_false, ite_true, ite_false, sNoLaw, neqT, neqF]; omega)
    · try simp (disch := omega) only [su_ap, Nat.reduceAdd, Nat.reduceMul, Nat.reduceSub, Nat.reduceDiv, Nat.reduceMod, Nat.reducePow, Nat.reduceEqDiff, Nat.reduceLT, ↓reduceIte, eq_self, and_self, and_true, true_and, and_false, false_and, if_true, if_false, ite_true, ite_false, sNoLaw, neqT, neqF]
      first
        | omega
        | (have w := n3 j (by omega); omega)
  · intro j hj
    simp only [su_ap, Nat.reduceAdd, Nat.reduceMul, Nat.reduceSub, Nat.reduceDiv, Nat.reduceMod, Nat.reducePow, Nat.reduceEqDiff, Nat.reduceLT, ↓reduceIte, eq_self, and_self, and_true, true_and, and_false, false_and, if_true, if_false, ite_true, ite_false, sNoLaw] at hj
    try simp only [su_ap, Nat.reduceAdd, Nat.reduceMul, Nat.reduceSub, Nat.reduceDiv, Nat.reduceMod, Nat.reducePow, Nat.reduceEqDiff, Nat.reduceLT, ↓reduceIte, eq_self, and_self, and_true, true_and, and_false, false_and, if_true, if_false, ite_true, ite_false, sNoLaw]
    by_cases q : j = 0
    · try subst q
      try simp only [su_ap, Nat.reduceAdd, Nat.reduceMul, Nat.reduceSub, Nat.reduceDiv, Nat.reduceMod, Nat.reducePow, Nat.reduceEqDiff, Nat.reduceLT, ↓reduceIte, eq_self, and_self, and_true, true_and, and_false, false_and, if_true, if_false, ite_true, ite_false, sNoLaw]
      first
        | omega
        | (have w := n4 _ (by omega); omega)
        | (have w := n4 _ (by omega); simp (disch := omega) only [su_ap, Nat.reduceAdd, Nat.reduceMul, Nat.reduceSub, Nat.reduceDiv, Nat.reduceMod, Nat.reducePow, Nat.reduceEqDiff, Nat.reduceLT, ↓reduceIte, eq_self, and_self, and_true, true_and, and_false, false_and, if_true, if_false, ite_true, ite_false, sNoLaw, neqT, neqF]; omega)
        | (simp (disch := omega) only [su_ap, Nat.reduceAdd, Nat.reduceMul, Nat.reduceSub, Nat.reduceDiv, Nat.reduceMod, Nat.reducePow, Nat.reduceEqDiff, Nat.reduceLT, ↓reduceIte, eq_self, and_self, and_true, true_and, and_false, false_and, if_true, if_false, ite_true, ite_false, sNoLaw, neqT, neqF]; omega)
    · try simp (disch := omega) only [su_ap, Nat.reduceAdd, Nat.reduceMul, Nat.reduceSub, Nat.reduceDiv, Nat.reduceMod, Nat.reducePow, Nat.reduceEqDiff, Nat.reduceLT, ↓reduceIte, eq_self, and_self, and_true, true_and, and_false, false_and, if_true, if_false, ite_true, ite_false, sNoLaw, neqT, neqF]
      first
        | omega
        | (have w := n4 j (by omega); omega)
  · exact z9
  · intro j hj
    simp only [su_ap, Nat.reduceAdd, Nat.reduceMul, Nat.reduceSub, Nat.reduceDiv, Nat.reduceMod, Nat.reducePow, Nat.reduceEqDiff, Nat.reduceLT, ↓reduceIte, eq_self, and_self, and_true, true_and, and_false, false_and, if_true, if_false, ite_true, ite_false, sNoLaw] at hj
    try simp only [su_ap, Nat.reduceAdd, Nat.reduceMul, Nat.reduceSub, Nat.reduceDiv, Nat.reduceMod, Nat.reducePow, Nat.reduceEqDiff, Nat.reduceLT, ↓reduceIte, eq_self, and_self, and_true, true_and, and_false, false_and, if_true, if_false, ite_true, ite_false, sNoLaw]
    by_cases q : j = 0
    · try subst q
      try simp only [su_ap, Nat.reduceAdd, Nat.reduceMul, Nat.reduceSub, Nat.reduceDiv, Nat.reduceMod, Nat.reducePow, Nat.reduceEqDiff, Nat.reduceLT, ↓reduceIte, eq_self, and_self, and_true, true_and, and_false, false_and, if_true, if_false, ite_true, ite_false, sNoLaw]
      first
        | omega
        | (have w := z10 _ (by omega); omega)
        | (have w := z10 _ (by omega); simp (disch := omega) only [su_ap, Nat.reduceAdd, Nat.reduceMul, Nat.reduceSub, Nat.reduceDiv, Nat.reduceMod, Nat.reducePow, Nat.reduceEqDiff, Nat.reduceLT, ↓reduceIte, eq_self, and_self, and_true, true_and, and_false, false_and, if_true, if_false, ite_true, ite_false, sNoLaw, neqT, neqF]; omega)
        | (simp (disch := omega) only [su_ap, Nat.reduceAdd, Nat.reduceMul, Nat.reduceSub, Nat.reduceDiv, Nat.reduceMod, Nat.reducePow, Nat.reduceEqDiff, Nat.reduceLT, ↓reduceIte, eq_self, and_self, and_true, true_and, and_false, false_and, if_true, if_false, ite_true, ite_false, sNoLaw, neqT, neqF]; omega)
    · try simp (disch := omega) only [su_ap, Nat.reduceAdd, Nat.reduceMul, Nat.reduceSub, Nat.reduceDiv, Nat.reduceMod, Nat.reducePow, Nat.reduceEqDiff, Nat.reduceLT, ↓reduceIte, eq_self, and_self, and_true, true_and, and_false, false_and, if_true, if_false, ite_true, ite_false, sNoLaw, neqT, neqF]
      first
        | omega
        | (have w := z10 j (by omega); omega)
  · intro i hi
    have w := z11 i hi
    refine ⟨?_, fun j hj => ?_⟩
    · simp only [su_ap, Nat.reduceAdd, Nat.reduceMul, Nat.reduceSub, Nat.reduceDiv, Nat.reduceMod, Nat.reducePow, Nat.reduceEqDiff, Nat.reduceLT, ↓reduceIte, eq_self, and_self, and_true, true_and, and_false, false_and, if_true, if_false, ite_true, ite_false, sNoLaw]
      by_cases q : i = a
      · rw [if_pos q]; omega
      · rw [if_neg q]; omega
    · simp only [su_ap, Nat.reduceAdd, Nat.reduceMul, Nat.reduceSub, Nat.reduceDiv, Nat.reduceMod, Nat.reducePow, Nat.reduceEqDiff, Nat.reduceLT, ↓reduceIte, eq_self, and_self, and_true, true_and, and_false, false_and, if_true, if_false, ite_true, ite_false, sNoLaw] at hj ⊢
      by_cases q : i = a
      · rw [if_pos q] at hj
        subst q
        by_cases q2 : j = S 8 i
        · subst q2; try simp only [su_ap, Nat.reduceAdd, Nat.reduceMul, Nat.reduceSub, Nat.reduceDiv, Nat.reduceMod, Nat.reducePow, Nat.reduceEqDiff, Nat.reduceLT, ↓reduceIte, eq_self, and_self, and_true, true_and, and_false, false_and, if_true, if_false, ite_true, ite_false, sNoLaw]
          omega
        · try rw [if_neg (by omega)]
          have w2 := w.2 j (by omega)
          omega
      · rw [if_neg q] at hj
        have w2 := w.2 j hj
        have w3 := z11 a ha
        try rw [if_neg (by omega)]
        omega
  · intro j hj
    simp only [su_ap, Nat.reduceAdd, Nat.reduceMul, Nat.reduceSub, Nat.reduceDiv, Nat.reduceMod, Nat.reducePow, Nat.reduceEqDiff, Nat.reduceLT, ↓reduceIte, eq_self, and_self, and_true, true_and, and_false, false_and, if_true, if_false, ite_true, ite_false, sNoLaw] at hj
    try simp only [su_ap, Nat.reduceAdd, Nat.reduceMul, Nat.reduceSub, Nat.reduceDiv, Nat.reduceMod, Nat.reducePow, Nat.reduceEqDiff, Nat.reduceLT, ↓reduceIte, eq_self, and_self, and_true, true_and, and_false, false_and, if_true, if_false, ite_true, ite_false, sNoLaw]
    by_cases q : j = 0
    · try subst q
      try simp only [su_ap, Nat.reduceAdd, Nat.reduceMul, Nat.reduceSub, Nat.reduceDiv, Nat.reduceMod, Nat.reducePow, Nat.reduceEqDiff, Nat.reduceLT, ↓reduceIte, eq_self, and_self, and_true, true_and, and_false, false_and, if_true, if_false, ite_true, ite_false, sNoLaw]
      first
        | omega
        | (have w := z12 _ (by omega); omega)
        | (have w := z12 _ (by omega); simp (disch := omega) only [su_ap, Nat.reduceAdd, Nat.reduceMul, Nat.reduceSub, Nat.reduceDiv, Nat.reduceMod, Nat.reducePow, Nat.reduceEqDiff, Nat.reduceLT, ↓reduceIte, eq_self, and_self, and_true, true_and, and_false, false_and, if_true, if_false, ite_true, ite_false, sNoLaw, neqT, neqF]; omega)
        | (simp (disch := omega) only [su_ap, Nat.reduceAdd, Nat.reduceMul, Nat.reduceSub, Nat.reduceDiv, Nat.reduceMod, Nat.reducePow, Nat.reduceEqDiff, Nat.reduceLT, ↓reduceIte, eq_self, and_self, and_true, true_and, and_false, false_and, if_true, if_false, ite_true, ite_false, sNoLaw, neqT, neqF]; omega)
    · try simp (disch := omega) only [su_ap, Nat.reduceAdd, Nat.reduceMul, Nat.reduceSub, Nat.reduceDiv, Nat.reduceMod, Nat.reducePow, Nat.reduceEqDiff, Nat.reduceLT, ↓reduceIte, eq_self, and_self, and_true, true_and, and_false, false_and, if_true, if_false, ite_true, ite_false, sNoLaw, neqT, neqF]
      first
        | omega
        | (have w := z12 j (by omega); omega)
  · intro j hj
    simp only [su_ap, Nat.reduceAdd, Nat.reduceMul, Nat.reduceSub, Nat.reduceDiv, Nat.reduceMod, Nat.reducePow, Nat.reduceEqDiff, Nat.reduceLT, ↓reduceIte, eq_self, and_self, and_true, true_and, and_false, false_and, if_true, if_false, ite_true, ite_false, sNoLaw] at hj
    try simp only [su_ap, Nat.reduceAdd, Nat.reduceMul, Nat.reduceSub, Nat.reduceDiv, Nat.reduceMod, Nat.reducePow, Nat.reduceEqDiff, Nat.reduceLT, ↓reduceIte, eq_self, and_self, and_true, true_and, and_false, false_and, if_true, if_false, ite_true, ite_false, sNoLaw]
    by_cases q : j = 0
    · try subst q
      try simp only [su_ap, Nat.reduceAdd, Nat.reduceMul, Nat.reduceSub, Nat.reduceDiv, Nat.reduceMod, Nat.reducePow, Nat.reduceEqDiff, Nat.reduceLT, ↓reduceIte, eq_self, and_self, and_true, true_and, and_false, false_and, if_true, if_false, ite_true, ite_false, sNoLaw]
      first
        | omega
        | (have w := z13 _ (by omega); omega)
        | (have w := z13 _ (by omega); simp (disch := omega) only [su_ap, Nat.reduceAdd, Nat.reduceMul, Nat.reduceSub, Nat.reduceDiv, Nat.reduceMod, Nat.reducePow, Nat.reduceEqDiff, Nat.reduceLT, ↓reduceIte, eq_self, and_self, and_true, true_and, and_false, false_and, if_true, if_false, ite_true, ite_false, sNoLaw, neqT, neqF]; omega)
        | (simp (disch := omega) only [su_ap, Nat.reduceAdd, Nat.reduceMul, Nat.reduceSub, Nat.reduceDiv, Nat.reduceMod, Nat.reducePow, Nat.reduceEqDiff, Nat.reduceLT, ↓reduceIte, eq_self, and_self, and_true, true_and, and_false, false_and, if_true, if_false, ite_true, ite_false, sNoLaw, neqT, neqF]; omega)
    · try simp (disch := omega) only [su_ap, Nat.reduceAdd, Nat.reduceMul, Nat.reduceSub, Nat.reduceDiv, Nat.reduceMod, Nat.reducePow, Nat.reduceEqDiff, Nat.reduceLT, ↓reduceIte, eq_self, and_self, and_true, true_and, and_false, false_and, if_true, if_false, ite_true, ite_false, sNoLaw, neqT, neqF]
      first
        | omega
        | (have w := z13 j (by omega); omega)
set_option maxHeartbeats 1000000 in
theorem sok_show0 {t : Nat} {S : eS} (hs : sok t S) {c : Nat} (hc : c ≤ 9) (hc1 : 1 ≤ c) (hp : S 0 4 < 4) : sok t (sShow0 S c) := by
  obtain ⟨z0, z1, z2, z3, z4, z5, z6, z7, ⟨n0, n1, n2, n3, n4⟩, z9, z10, z11, z12, z13⟩ := hs
  refine ⟨?_, ?_, ?_, ?_, ?_, ?_, ?_, ?_, ⟨?_, ?_, ?_, ?_, ?_⟩, ?_, ?_, ?_, ?_, ?_⟩
  · simp (disch := omega) only [su_ap, Nat.reduceAdd, Nat.reduceMul, Nat.reduceSub, Nat.reduceDiv, Nat.reduceMod, Nat.reducePow, Nat.reduceEqDiff, Nat.reduceLT, ↓reduceIte, eq_self, and_self, and_true, true_and, and_false, false_and, if_true, if_false, ite_true, ite_false, sShow0, neqT, neqF]; try omega
  · simp (disch := omega) only [su_ap, Nat.reduceAdd, Nat.reduceMul, Nat.reduceSub, Nat.reduceDiv, Nat.reduceMod, Nat.reducePow, Nat.reduceEqDiff, Nat.reduceLT, ↓reduceIte, eq_self, and_self, and_true, true_and, and_false, false_and, if_true, if_false, ite_true, ite_false, sShow0, neqT, neqF]; try omega
  · simp (disch := omega) only [su_ap, Nat.reduceAdd, Nat.reduceMul, Nat.reduceSub, Nat.reduceDiv, Nat.reduceMod, Nat.reducePow, Nat.reduceEqDiff, Nat.reduceLT, ↓reduceIte, eq_self, and_self, and_true, true_and, and_false, false_and, if_true, if_false, ite_true, ite_false, sShow0, neqT, neqF]; try omega
  · simp (disch := omega) only [su_ap, Nat.reduceAdd, Nat.reduceMul, Nat.reduceSub, Nat.reduceDiv, Nat.reduceMod, Nat.reducePow, Nat.reduceEqDiff, Nat.reduceLT, ↓reduceIte, eq_self, and_self, and_true, true_and, and_false, false_and, if_true, if_false, ite_true, ite_false, sShow0, neqT, neqF]; try omega
  · simp (disch := omega) only [su_ap, Nat.reduceAdd, Nat.reduceMul, Nat.reduceSub, Nat.reduceDiv, Nat.reduceMod, Nat.reducePow, Nat.reduceEqDiff, Nat.reduceLT, ↓reduceIte, eq_self, and_self, and_true, true_and, and_false, false_and, if_true, if_false, ite_true, ite_false, sShow0, neqT, neqF]; try omega
  · simp (disch := omega) only [su_ap, Nat.reduceAdd, Nat.reduceMul, Nat.reduceSub, Nat.reduceDiv, Nat.reduceMod, Nat.reducePow, Nat.reduceEqDiff, Nat.reduceLT, ↓reduceIte, eq_self, and_self, and_true, true_and, and_false, false_and, if_true, if_false, ite_true, ite_false, sShow0, neqT, neqF]; try omega
  · intro j hj
    simp only [su_ap, Nat.reduceAdd, Nat.reduceMul, Nat.reduceSub, Nat.reduceDiv, Nat.reduceMod, Nat.reducePow, Nat.reduceEqDiff, Nat.reduceLT, ↓reduceIte, eq_self, and_self, and_true, true_and, and_false, false_and, if_true, if_false, ite_true, ite_false, sShow0] at hj
    try simp only [su_ap, Nat.reduceAdd, Nat.reduceMul, Nat.reduceSub, Nat.reduceDiv, Nat.reduceMod, Nat.reducePow, Nat.reduceEqDiff, Nat.reduceLT, ↓reduceIte, eq_self, and_self, and_true, true_and, and_false, false_and, if_true, if_false, ite_true, ite_false, sShow0]
    by_cases q : j = S 0 4
    · try subst q
      try simp only [su_ap, Nat.reduceAdd, Nat.reduceMul, Nat.reduceSub, Nat.reduceDiv, Nat.reduceMod, Nat.reducePow, Nat.reduceEqDiff, Nat.reduceLT, ↓reduceIte, eq_self, and_self, and_true, true_and, and_false, false_and, if_true, if_false, ite_true, ite_false, sShow0]
      first
        | omega
        | (have w := z6 _ (by omega); omega)
        | (have w := z6 _ (by omega); simp (disch := omega) only [su_ap, Nat.reduceAdd, Nat.reduceMul, Nat.reduceSub, Nat.reduceDiv, Nat.reduceMod, Nat.reducePow, Nat.reduceEqDiff, Nat.reduceLT, ↓reduceIte, eq_self, and_self, and_true, true_and, and_false, false_and, if_true, if_false, ite_true, ite_false, sShow0, neqT, neqF]; omega)
        | (simp (disch := omega) only [su_ap, Nat.reduceAdd, Nat.reduceMul, Nat.reduceSub, Nat.reduceDiv, Nat.reduceMod, Nat.reducePow, Nat.reduceEqDiff, Nat.reduceLT, ↓reduceIte, eq_self, and_self, and_true, true_and, and_false, false_and, if_true, if_false, ite_true, ite_false, sShow0, neqT, neqF]; omega)
    · try simp (disch := omega) only [su_ap, Nat.reduceAdd, Nat.reduceMul, Nat.reduceSub, Nat.reduceDiv, Nat.reduceMod, Nat.reducePow, Nat.reduceEqDiff, Nat.reduceLT, ↓reduceIte, eq_self, and_self, and_true, true_and, and_false, false_and, if_true, if_false, ite_true, ite_false, sShow0, neqT, neqF]
      first
        | omega
        | (have w := z6 j (by omega); omega)
  · intro j hj
    simp only [su_ap, Nat.reduceAdd, Nat.reduceMul, Nat.reduceSub, Nat.reduceDiv, Nat.reduceMod, Nat.reducePow, Nat.reduceEqDiff, Nat.reduceLT, ↓reduceIte, eq_self, and_self, and_true, true_and, and_false, false_and, if_true, if_false, ite_true, ite_false, sShow0] at hj
    try simp only [su_ap, Nat.reduceAdd, Nat.reduceMul, Nat.reduceSub, Nat.reduceDiv, Nat.reduceMod, Nat.reducePow, Nat.reduceEqDiff, Nat.reduceLT, ↓reduceIte, eq_self, and_self, and_true, true_and, and_false, false_and, if_true, if_false, ite_true, ite_false, sShow0]
    by_cases q : j = S 0 4
    · try subst q
      try simp only [su_ap, Nat.reduceAdd, Nat.reduceMul, Nat.reduceSub, Nat.reduceDiv, Nat.reduceMod, Nat.reducePow, Nat.reduceEqDiff, Nat.reduceLT, ↓reduceIte, eq_self, and_self, and_true, true_and, and_false, false_and, if_true, if_false, ite_true, ite_false, sShow0]
      first
        | omega
        | (have w := z7 _ (by omega); omega)
        | (have w := z7 _ (by omega); simp (disch := omega) only [su_ap, Nat.reduceAdd, Nat.reduceMul, Nat.reduceSub, Nat.reduceDiv, Nat.reduceMod, Nat.reducePow, Nat.reduceEqDiff, Nat.reduceLT, ↓reduceIte, eq_self, and_self, and_true, true_and, and_false, false_and, if_true, if_false, ite_true, ite_false, sShow0, neqT, neqF]; omega)
        | (simp (disch := omega) only [su_ap, Nat.reduceAdd, Nat.reduceMul, Nat.reduceSub, Nat.reduceDiv, Nat.reduceMod, Nat.reducePow, Nat.reduceEqDiff, Nat.reduceLT, ↓reduceIte, eq_self, and_self, and_true, true_and, and_false, false_and, if_true, if_false, ite_true, ite_false, sShow0, neqT, neqF]; omega)
    · try simp (disch := omega) only [su_ap, Nat.reduceAdd, Nat.reduceMul, Nat.reduceSub, Nat.reduceDiv, Nat.reduceMod, Nat.reducePow, Nat.reduceEqDiff, Nat.reduceLT, ↓reduceIte, eq_self, and_self, and_true, true_and, and_false, false_and, if_true, if_false, ite_true, ite_false, sShow0, neqT, neqF]
      first
        | omega
        | (have w := z7 j (by omega); omega)
  · simp (disch := omega) only [su_ap, Nat.reduceAdd, Nat.reduceMul, Nat.reduceSub, Nat.reduceDiv, Nat.reduceMod, Nat.reducePow, Nat.reduceEqDiff, Nat.reduceLT, ↓reduceIte, eq_self, and_self, and_true, true_and, and_false, false_and, if_true, if_false, ite_true, ite_false, sShow0, neqT, neqF]; try omega
  · simp (disch := omega) only [su_ap, Nat.reduceAdd, Nat.reduceMul, Nat.reduceSub, Nat.reduceDiv, Nat.reduceMod, Nat.reducePow, Nat.reduceEqDiff, Nat.reduceLT, ↓reduceIte, eq_self, and_self, and_true, true_and, and_false, false_and, if_true, if_false, ite_true, ite_false, sShow0, neqT, neqF]; try omega
  · simp (disch := omega) only [su_ap, Nat.reduceAdd, Nat.reduceMul, Nat.reduceSub, Nat.reduceDiv, Nat.reduceMod, Nat.reducePow, Nat.reduceEqDiff, Nat.reduceLT, ↓reduceIte, eq_self, and_self, and_true, true_and, and_false, false_and, if_true, if_false, ite_true, ite_false, sShow0, neqT, neqF]; try omega
  · intro j hj
    simp only [su_ap, Nat.reduceAdd, Nat.reduceMul, Nat.reduceSub, Nat.reduceDiv, Nat.reduceMod, Nat.reducePow, Nat.reduceEqDiff, Nat.reduceLT, ↓reduceIte, eq_self, and_self, and_true, true_and, and_false, false_and, if_true, if_false, ite_true, ite_false, sShow0] at hj
    try simp only [su_ap, Nat.reduceAdd, Nat.reduceMul, Nat.reduceSub, Nat.reduceDiv, Nat.reduceMod, Nat.reducePow, Nat.reduceEqDiff, Nat.reduceLT, ↓reduceIte, eq_self, and_self, and_true, true_and, and_false, false_and, if_true, if_false, ite_true, ite_false, sShow0]
    by_cases q : j = S 0 4
    · try subst q
      try simp only [su_ap, Nat.reduceAdd, Nat.reduceMul, Nat.reduceSub, Nat.reduceDiv, Nat.reduceMod, Nat.reducePow, Nat.reduceEqDiff, Nat.reduceLT, ↓reduceIte, eq_self, and_self, and_true, true_and, and_false, false_and, if_true, if_false, ite_true, ite_false, sShow0]
      first
        | omega
        | (have w := n3 _ (by omega); omega)
        | (have w := n3 _ (by omega); simp (disch := omega) only [su_ap, Nat.reduceAdd, Nat.reduceMul, Nat.reduceSub, Nat.reduceDiv, Nat.reduceMod, Nat.reducePow, Nat.reduceEqDiff, Nat.reduceLT, ↓reduceIte, eq_self, and_self, and_true, true_and, and_false, false_and, if_true, if_false, ite_true, ite_false, sShow0, neqT, neqF]; omega)
        | (simp (disch := omega) only [su_ap, Nat.reduceAdd, Nat.reduceMul, Nat.reduceSub, Nat.reduceDiv, Nat.reduceMod, Nat.reducePow, Nat.reduceEqDiff, Nat.reduceLT, ↓reduceIte, eq_self, and_self, and_true, true_and, and_false, false_and, if_true, if_false, ite_true, ite_false, sShow0, neqT, neqF]; omega)
    · try simp (disch := omega) only [su_ap, Nat.reduceAdd, Nat.reduceMul, Nat.reduceSub, Nat.reduceDiv, Nat.reduceMod, Nat.reducePow, Nat.reduceEqDiff, Nat.reduceLT, ↓reduceIte, eq_self, and_self, and_true, true_and, and_false, false_and, if_true, if_false, ite_true, ite_false, sShow0, neqT, neqF]
      first
        | omega
        | (have w := n3 j (by omega); omega)
  · intro j hj
    simp only [su_ap, Nat.reduceAdd, Nat.reduceMul, Nat.reduceSub, Nat.reduceDiv, Nat.reduceMod, Nat.reducePow, Nat.reduceEqDiff, Nat.reduceLT, ↓reduceIte, eq_self, and_self, and_true, true_and, and_false, false_and, if_true, if_false, ite_true, ite_false, sShow0] at hj
    try simp only [su_ap, Nat.reduceAdd, Nat.reduceMul, Nat.reduceSub, Nat.reduceDiv, Nat.reduceMod, Nat.reducePow, Nat.reduceEqDiff, Nat.reduceLT, ↓reduceIte, eq_self, and_self, and_true, true_and, and_false, false_and, if_true, if_false, ite_true, ite_false, sShow0]
    by_cases q : j = S 0 4
    · try subst q
      try simp only [su_ap, Nat.reduceAdd, Nat.reduceMul, Nat.reduceSub, Nat.reduceDiv, Nat.reduceMod, Nat.reducePow, Nat.reduceEqDiff, Nat.reduceLT, ↓reduceIte, eq_self, and_self, and_true, true_and, and_false, false_and, if_true, if_false, ite_true, ite_false, sShow0]
      first
        | omega
        | (have w := n4 _ (by omega); omega)
        | (have w := n4 _ (by omega); simp (disch := omega) only [su_ap, Nat.reduceAdd, Nat.reduceMul, Nat.reduceSub, Nat.reduceDiv, Nat.reduceMod, Nat.reducePow, Nat.reduceEqDiff, Nat.reduceLT, ↓reduceIte, eq_self, and_self, and_true, true_and, and_false, false_and, if_true, if_false, ite_true, ite_false, sShow0, neqT, neqF]; omega)
        | (simp (disch := omega) only [su_ap, Nat.reduceAdd, Nat.reduceMul, Nat.reduceSub, Nat.reduceDiv, Nat.reduceMod, Nat.reducePow, Nat.reduceEqDiff, Nat.reduceLT, ↓reduceIte, eq_self, and_self, and_true, true_and, and_false, false_and, if_true, if_false, ite_true, ite_false, sShow0, neqT, neqF]; omega)
    · try simp (disch := omega) only [su_ap, Nat.reduceAdd, Nat.reduceMul, Nat.reduceSub, Nat.reduceDiv, Nat.reduceMod, Nat.reducePow, Nat.reduceEqDiff, Nat.reduceLT, ↓reduceIte, eq_self, and_self, and_true, true_and, and_false, false_and, if_true, if_false, ite_true, ite_false, sShow0, neqT, neqF]
      first
        | omega
        | (have w := n4 j (by omega); omega)
  · exact z9
  · intro j hj
    simp only [su_ap, Nat.reduceAdd, Nat.reduceMul, Nat.reduceSub, Nat.reduceDiv, Nat.reduceMod, Nat.reducePow, Nat.reduceEqDiff, Nat.reduceLT, ↓reduceIte, eq_self, and_self, and_true, true_and, and_false, false_and, if_true, if_false, ite_true, ite_false, sShow0] at hj
    try simp only [su_ap, Nat.reduceAdd, Nat.reduceMul, Nat.reduceSub, Nat.reduceDiv, Nat.reduceMod, Nat.reducePow, Nat.reduceEqDiff, Nat.reduceLT, ↓reduceIte, eq_self, and_self, and_true, true_and, and_false, false_and, if_true, if_false, ite_true, ite_false, sShow0]
    by_cases q : j = S 0 4
    · try subst q
      try simp only [su_ap, Nat.reduceAdd, Nat.reduceMul, Nat.reduceSub, Nat.reduceDiv, Nat.reduceMod, Nat.reducePow, Nat.reduceEqDiff, Nat.reduceLT, ↓reduceIte, eq_self, and_self, and_true, true_and, and_false, false_and, if_true, if_false, ite_true, ite_false, sShow0]
      first
        | omega
        | (have w := z10 _ (by omega); omega)
        | (have w := z10 _ (by omega); simp (disch := omega) only [su_ap, Nat.reduceAdd, Nat.reduceMul, Nat.reduceSub, Nat.reduceDiv, Nat.reduceMod, Nat.reducePow, Nat.reduceEqDiff, Nat.reduceLT, ↓reduceIte, eq_self, and_self, and_true, true_and, and_false, false_and, if_true, if_false, ite_true, ite_false, sShow0, neqT, neqF]; omega)
        | (simp (disch := omega) only [su_ap, Nat.reduceAdd, Nat.reduceMul, Nat.reduceSub, Nat.reduceDiv, Nat.reduceMod, Nat.reducePow, Nat.reduceEqDiff, Nat.reduceLT, ↓reduceIte, eq_self, and_self, and_true, true_and, and_false, false_and, if_true, if_false, ite_true, ite_false, sShow0, neqT, neqF]; omega)
    · try simp (disch := omega) only [su_ap, Nat.reduceAdd, Nat.reduceMul, Nat.reduceSub, Nat.reduceDiv, Nat.reduceMod, Nat.reducePow, Nat.reduceEqDiff, Nat.reduceLT, ↓reduceIte, eq_self, and_self, and_true, true_and, and_false, false_and, if_true, if_false, ite_true, ite_false, sShow0, neqT, neqF]
      first
        | omega
        | (have w := z10 j (by omega); omega)
  · exact z11
  · intro j hj
    simp only [su_ap, Nat.reduceAdd, Nat.reduceMul, Nat.reduceSub, Nat.reduceDiv, Nat.reduceMod, Nat.reducePow, Nat.reduceEqDiff, Nat.reduceLT, ↓reduceIte, eq_self, and_self, and_true, true_and, and_false, false_and, if_true, if_false, ite_true, ite_false, sShow0] at hj
    try simp only [su_ap, Nat.reduceAdd, Nat.reduceMul, Nat.reduceSub, Nat.reduceDiv, Nat.reduceMod, Nat.reducePow, Nat.reduceEqDiff, Nat.reduceLT, ↓reduceIte, eq_self, and_self, and_true, true_and, and_false, false_and, if_true, if_false, ite_true, ite_false, sShow0]
    by_cases q : j = S 0 4
    · try subst q
      try simp only [su_ap, Nat.reduceAdd, Nat.reduceMul, Nat.reduceSub, Nat.reduceDiv, Nat.reduceMod, Nat.reducePow, Nat.reduceEqDiff, Nat.reduceLT, ↓reduceIte, eq_self, and_self, and_true, true_and, and_false, false_and, if_true, if_false, ite_true, ite_false, sShow0]
      first
        | omega
        | (have w := z12 _ (by omega); omega)
        | (have w := z12 _ (by omega); simp (disch := omega) only [su_ap, Nat.reduceAdd, Nat.reduceMul, Nat.reduceSub, Nat.reduceDiv, Nat.reduceMod, Nat.reducePow, Nat.reduceEqDiff, Nat.reduceLT, ↓reduceIte, eq_self, and_self, and_true, true_and, and_false, false_and, if_true, if_false, ite_true, ite_false, sShow0, neqT, neqF]; omega)
        | (simp (disch := omega) only [su_ap, Nat.reduceAdd, Nat.reduceMul, Nat.reduceSub, Nat.reduceDiv, Nat.reduceMod, Nat.reducePow, Nat.reduceEqDiff, Nat.reduceLT, ↓reduceIte, eq_self, and_self, and_true, true_and, and_false, false_and, if_true, if_false, ite_true, ite_false, sShow0, neqT, neqF]; omega)
    · try simp (disch := omega) only [su_ap, Nat.reduceAdd, Nat.reduceMul, Nat.reduceSub, Nat.reduceDiv, Nat.reduceMod, Nat.reducePow, Nat.reduceEqDiff, Nat.reduceLT, ↓reduceIte, eq_self, and_self, and_true, true_and, and_false, false_and, if_true, if_false, ite_true, ite_false, sShow0, neqT, neqF]
      first
        | omega
        | (have w := z12 j (by omega); omega)
  · intro j hj
    simp only [su_ap, Nat.reduceAdd, Nat.reduceMul, Nat.reduceSub, Nat.reduceDiv, Nat.reduceMod, Nat.reducePow, Nat.reduceEqDiff, Nat.reduceLT, ↓reduceIte, eq_self, and_self, and_true, true_and, and_false, false_and, if_true, if_false, ite_true, ite_false, sShow0] at hj
    try simp only [su_ap, Nat.reduceAdd, Nat.reduceMul, Nat.reduceSub, Nat.reduceDiv, Nat.reduceMod, Nat.reducePow, Nat.reduceEqDiff, Nat.reduceLT, ↓reduceIte, eq_self, and_self, and_true, true_and, and_false, false_and, if_true, if_false, ite_true, ite_false, sShow0]
    by_cases q : j = S 0 4
    · try subst q
      try simp only [su_ap, Nat.reduceAdd, Nat.reduceMul, Nat.reduceSub, Nat.reduceDiv, Nat.reduceMod, Nat.reducePow, Nat.reduceEqDiff, Nat.reduceLT, ↓reduceIte, eq_self, and_self, and_true, true_and, and_false, false_and, if_true, if_false, ite_true, ite_false, sShow0]
      first
        | omega
        | (have w := z13 _ (by omega); omega)
        | (have w := z13 _ (by omega); simp (disch := omega) only [su_ap, Nat.reduceAdd, Nat.reduceMul, Nat.reduceSub, Nat.reduceDiv, Nat.reduceMod, Nat.reducePow, Nat.reduceEqDiff, Nat.reduceLT, ↓reduceIte, eq_self, and_self, and_true, true_and, and_false, false_and, if_true, if_false, ite_true, ite_false, sShow0, neqT, neqF]; omega)
        | (simp (disch := omega) only [su_ap, Nat.reduceAdd, Nat.reduceMul, Nat.reduceSub, Nat.reduceDiv, Nat.reduceMod, Nat.reducePow, Nat.reduceEqDiff, Nat.reduceLT, ↓reduceIte, eq_self, and_self, and_true, true_and, and_false, false_and, if_true, if_false, ite_true, ite_false, sShow0, neqT, neqF]; omega)
    · try simp (disch := omega) only [su_ap, Nat.reduceAdd, Nat.reduceMul, Nat.reduceSub, Nat.reduceDiv, Nat.reduceMod, Nat.reducePow, Nat.reduceEqDiff, Nat.reduceLT, ↓reduceIte, eq_self, and_self, and_true, true_and, and_false, false_and, if_true, if_false, ite_true, ite_false, sShow0, neqT, neqF]
      first
        | omega
        | (have w := z13 j (by omega); omega)
set_option maxHeartbeats 1000000 in
theorem sok_show1 {t : Nat} {S : eS} (hs : sok t S) {c : Nat} (hc : c ≤ 9) (hc1 : 1 ≤ c) (hp : S 0 5 < 4) : sok t (sShow1 S c) := by
  obtain ⟨z0, z1, z2, z3, z4, z5, z6, z7, ⟨n0, n1, n2, n3, n4⟩, z9, z10, z11, z12, z13⟩ := hs
  refine ⟨?_, ?_, ?_, ?_, ?_, ?_, ?_, ?_, ⟨?_, ?_, ?_, ?_, ?_⟩, ?_, ?_, ?_, ?_, ?_⟩
  · simp (disch := omega) only [su_ap, Nat.reduceAdd, Nat.reduceMul, Nat.reduceSub, Nat.reduceDiv, Nat.reduceMod, Nat.reducePow, Nat.reduceEqDiff, Nat.reduceLT, ↓reduceIte, eq_self, and_self, and_true, true_and, and_false, false_and, if_true, if_false, ite_true, ite_false, sShow1, neqT, neqF]; try omega
  · simp (disch := omega) only [su_ap, Nat.reduceAdd, Nat.reduceMul, Nat.reduceSub, Nat.reduceDiv, Nat.reduceMod, Nat.reducePow, Nat.reduceEqDiff, Nat.reduceLT, ↓reduceIte, eq_self, and_self, and_true, true_and, and_false, false_and, if_true, if_false, ite_true, ite_false, sShow1, neqT, neqF]; try omega
  · simp (disch := omega) only [su_ap, Nat.reduceAdd, Nat.reduceMul, Nat.reduceSub, Nat.reduceDiv, Nat.reduceMod, Nat.reducePow, Nat.reduceEqDiff, Nat.reduceLT, ↓reduceIte, eq_self, and_self, and_true, true_and, and_false, false_and, if_true, if_false, ite_true, ite_false, sShow1, neqT, neqF]; try omega
  · simp (disch := omega) only [su_ap, Nat.reduceAdd, Nat.reduceMul, Nat.reduceSub, Nat.reduceDiv, Nat.reduceMod, Nat.reducePow, Nat.reduceEqDiff, Nat.reduceLT, ↓reduceIte, eq_self, and_self, and_true, true_and, and_false, false_and, if_true, if_false, ite_true, ite_false, sShow1, neqT, neqF]; try omega
  · simp (disch := omega) only [su_ap, Nat.reduceAdd, Nat.reduceMul, Nat.reduceSub, Nat.reduceDiv, Nat.reduceMod, Nat.reducePow, Nat.reduceEqDiff, Nat.reduceLT, ↓reduceIte, eq_self, and_self, and_true, true_and, and_false, false_and, if_true, if_false, ite_true, ite_false, sShow1, neqT, neqF]; try omega
  · simp (disch := omega) only [su_ap, Nat.reduceAdd, Nat.reduceMul, Nat.reduceSub, Nat.reduceDiv, Nat.reduceMod, Nat.reducePow, Nat.reduceEqDiff, Nat.reduceLT, ↓reduceIte, eq_self, and_self, and_true, true_and, and_false, false_and, if_true, if_false, ite_true, ite_false, sShow1, neqT, neqF]; try omega
  · intro j hj
    simp only [su_ap, Nat.reduceAdd, Nat.reduceMul, Nat.reduceSub, Nat.reduceDiv, Nat.reduceMod, Nat.reducePow, Nat.reduceEqDiff, Nat.reduceLT, ↓reduceIte, eq_self, and_self, and_true, true_and, and_false, false_and, if_true, if_false, ite_true, ite_false, sShow1] at hj
    try simp only [su_ap, Nat.reduceAdd, Nat.reduceMul, Nat.reduceSub, Nat.reduceDiv, Nat.reduceMod, Nat.reducePow, Nat.reduceEqDiff, Nat.reduceLT, ↓reduceIte, eq_self, and_self, and_true, true_and, and_false, false_and, if_true, if_false, ite_true, ite_false, sShow1]
    by_cases q : j = S 0 5
    · try subst q
      try simp only [su_ap, Nat.reduceAdd, Nat.reduceMul, Nat.reduceSub, Nat.reduceDiv, Nat.reduceMod, Nat.reducePow, Nat.reduceEqDiff, Nat.reduceLT, ↓reduceIte, eq_self, and_self, and_true, true_and, and_false, false_and, if_true, if_false, ite_true, ite_false, sShow1]
      first
        | omega
        | (have w := z6 _ (by omega); omega)
        | (have w := z6 _ (by omega); simp (disch := omega) only [su_ap, Nat.reduceAdd, Nat.reduceMul, Nat.reduceSub, Nat.reduceDiv, Nat.reduceMod, Nat.reducePow, Nat.reduceEqDiff, Nat.reduceLT, ↓reduceIte, eq_self, and_self, and_true, true_and, and_false, false_and, if_true, if_false, ite_true, ite_false, sShow1, neqT, neqF]; omega)
        | (simp (disch := omega) only [su_ap, Nat.reduceAdd, Nat.reduceMul, Nat.reduceSub, Nat.reduceDiv, Nat.reduceMod, Nat.reducePow, Nat.reduceEqDiff, Nat.reduceLT, ↓reduceIte, eq_self, and_self, and_true, true_and, and_false, false_and, if_true, if_false, ite_true, ite_false, sShow1, neqT, neqF]; omega)
    · try simp (disch := omega) only [su_ap, Nat.reduceAdd, Nat.reduceMul, Nat.reduceSub, Nat.reduceDiv, Nat.reduceMod, Nat.reducePow, Nat.reduceEqDiff, Nat.reduceLT, ↓reduceIte, eq_self, and_self, and_true, true_and, and_false, false_and, if_true, if_false, ite_true, ite_false, sShow1, neqT, neqF]
      first
        | omega
        | (have w := z6 j (by omega); omega)
  · intro j hj
    simp only [su_ap, Nat.reduceAdd, Nat.reduceMul, Nat.reduceSub, Nat.reduceDiv, Nat.reduceMod, Nat.reducePow, Nat.reduceEqDiff, Nat.reduceLT, ↓reduceIte, eq_self, and_self, and_true, true_and, and_false, false_and, if_true, if_false, ite_true, ite_false, sShow1] at hj
    try simp only [su_ap, Nat.reduceAdd, Nat.reduceMul, Nat.reduceSub, Nat.reduceDiv, Nat.reduceMod, Nat.reducePow, Nat.reduceEqDiff, Nat.reduceLT, ↓reduceIte, eq_self, and_self, and_true, true_and, and_false, false_and, if_true, if_false, ite_true, ite_false, sShow1]
    by_cases q : j = S 0 5
    · try subst q
      try simp only [su_ap, Nat.reduceAdd, Nat.reduceMul, Nat.reduceSub, Nat.reduceDiv, Nat.reduceMod, Nat.reducePow, Nat.reduceEqDiff, Nat.reduceLT, ↓reduceIte, eq_self, and_self, and_true, true_and, and_false, false_and, if_true, if_false, ite_true, ite_false, sShow1]
      first
        | omega
        | (have w := z7 _ (by omega); omega)
        | (have w := z7 _ (by omega); simp (disch := omega) only [su_ap, Nat.reduceAdd, Nat.reduceMul, Nat.reduceSub, Nat.reduceDiv, Nat.reduceMod, Nat.reducePow, Nat.reduceEqDiff, Nat.reduceLT, ↓reduceIte, eq_self, and_self, and_true, true_and, and_false, false_and, if_true, if_false, ite_true, ite_false, sShow1, neqT, neqF]; omega)
        | (simp (disch := omega) only [su_ap, Nat.reduceAdd, Nat.reduceMul, Nat.reduceSub, Nat.reduceDiv, Nat.reduceMod, Nat.reducePow, Nat.reduceEqDiff, Nat.reduceLT, ↓reduceIte, eq_self, and_self, and_true, true_and, and_false, false_and, if_true, if_false, ite_true, ite_false, sShow1, neqT, neqF]; omega)
    · try simp (disch := omega) only [su_ap, Nat.reduceAdd, Nat.reduceMul, Nat.reduceSub, Nat.reduceDiv, Nat.reduceMod, Nat.reducePow, Nat.reduceEqDiff, Nat.reduceLT, ↓reduceIte, eq_self, and_self, and_true, true_and, and_false, false_and, if_true, if_false, ite_true, ite_false, sShow1, neqT, neqF]
      first
        | omega
        | (have w := z7 j (by omega); omega)
  · simp (disch := omega) only [su_ap, Nat.reduceAdd, Nat.reduceMul, Nat.reduceSub, Nat.reduceDiv, Nat.reduceMod, Nat.reducePow, Nat.reduceEqDiff, Nat.reduceLT, ↓reduceIte, eq_self, and_self, and_true, true_and, and_false, false_and, if_true, if_false, ite_true, ite_false, sShow1, neqT, neqF]; try omega
  · simp (disch := omega) only [su_ap, Nat.reduceAdd, Nat.reduceMul, Nat.reduceSub, Nat.reduceDiv, Nat.reduceMod, Nat.reducePow, Nat.reduceEqDiff, Nat.reduceLT, ↓reduceIte, eq_self, and_self, and_true, true_and, and_false, false_and, if_true, if_false, ite_true, ite_false, sShow1, neqT, neqF]; try omega
  · simp (disch := omega) only [su_ap, Nat.reduceAdd, Nat.reduceMul, Nat.reduceSub, Nat.reduceDiv, Nat.reduceMod, Nat.reducePow, Nat.reduceEqDiff, Nat.reduceLT, ↓reduceIte, eq_self, and_self, and_true, true_and, and_false, false_and, if_true, if_false, ite_true, ite_false, sShow1, neqT, neqF]; try omega
  · intro j hj
    simp only [su_ap, Nat.reduceAdd, Nat.reduceMul, Nat.reduceSub, Nat.reduceDiv, Nat.reduceMod, Nat.reducePow, Nat.reduceEqDiff, Nat.reduceLT, ↓reduceIte, eq_self, and_self, and_true, true_and, and_false, false_and, if_true, if_false, ite_true, ite_false, sShow1] at hj
    try simp only [su_ap, Nat.reduceAdd, Nat.reduceMul, Nat.reduceSub, Nat.reduceDiv, Nat.reduceMod, Nat.reducePow, Nat.reduceEqDiff, Nat.reduceLT, ↓reduceIte, eq_self, and_self, and_true, true_and, and_false, false_and, if_true, if_false, ite_true, ite_false, sShow1]
    by_cases q : j = S 0 5
    · try subst q
      try simp only [su_ap, Nat.reduceAdd, Nat.reduceMul, Nat.reduceSub, Nat.reduceDiv, Nat.reduceMod, Nat.reducePow, Nat.reduceEqDiff, Nat.reduceLT, ↓reduceIte, eq_self, and_self, and_true, true_and, and_false, false_and, if_true, if_false, ite_true, ite_false, sShow1]
      first
        | omega
        | (have w := n3 _ (by omega); omega)
        | (have w := n3 _ (by omega); simp (disch := omega) only [su_ap, Nat.reduceAdd, Nat.reduceMul, Nat.reduceSub, Nat.reduceDiv, Nat.reduceMod, Nat.reducePow, Nat.reduceEqDiff, Nat.reduceLT, ↓reduceIte, eq_self, and_self, and_true, true_and, and_false, false_and, if_true, if_false, ite_true, ite_false, sShow1, neqT, neqF]; omega)
        | (simp (disch := omega) only [su_ap, Nat.reduceAdd, Nat.reduceMul, Nat.reduceSub, Nat.reduceDiv, Nat.reduceMod, Nat.reducePow, Nat.reduceEqDiff, Nat.reduceLT, ↓reduceIte, eq_self, and_self, and_true, true_and, and_false, false_and, if_true, if_false, ite_true, ite_false, sShow1, neqT, neqF]; omega)
    · try simp (disch := omega) only [su_ap, Nat.reduceAdd, Nat.reduceMul, Nat.reduceSub, Nat.reduceDiv, Nat.reduceMod, Nat.reducePow, Nat.reduceEqDiff, Nat.reduceLT, ↓reduceIte, eq_self, and_self, and_true, true_and, and_false, false_and, if_true, if_false, ite_true, ite_false, sShow1, neqT, neqF]
      first
        | omega
        | (have w := n3 j (by omega); omega)
  · intro j hj
    simp only [su_ap, Nat.reduceAdd, Nat.reduceMul, Nat.reduceSub, Nat.reduceDiv, Nat.reduceMod, Nat.reducePow, Nat.reduceEqDiff, Nat.reduceLT, ↓reduceIte, eq_self, and_self, and_true, true_and, and_false, false_and, if_true, if_false, ite_true, ite_false, sShow1] at hj
    try simp only [su_ap, Nat.reduceAdd, Nat.reduceMul, Nat.reduceSub, Nat.reduceDiv, Nat.reduceMod, Nat.reducePow, Nat.reduceEqDiff, Nat.reduceLT, ↓reduceIte, eq_self, and_self, and_true, true_and, and_false, false_and, if_true, if_false, ite_true, ite_false, sShow1]
    by_cases q : j = S 0 5
    · try subst q
      try simp only [su_ap, Nat.reduceAdd, Nat.reduceMul, Nat.reduceSub, Nat.reduceDiv, Nat.reduceMod, Nat.reducePow, Nat.reduceEqDiff, Nat.reduceLT, ↓reduceIte, eq_self, and_self, and_true, true_and, and_false, false_and, if_true, if_false, ite_true, ite_false, sShow1]
      first
        | omega
        | (have w := n4 _ (by omega); omega)
        | (have w := n4 _ (by omega); simp (disch := omega) only [su_ap, Nat.reduceAdd, Nat.reduceMul, Nat.reduceSub, Nat.reduceDiv, Nat.reduceMod, Nat.reducePow, Nat.reduceEqDiff, Nat.reduceLT, ↓reduceIte, eq_self, and_self, and_true, true_and, and_false, false_and, if_true, if_false, ite_true, ite_false, sShow1, neqT, neqF]; omega)
        | (simp (disch := omega) only [su_ap, Nat.reduceAdd, Nat.reduceMul, Nat.reduceSub, Nat.reduceDiv, Nat.reduceMod, Nat.reducePow, Nat.reduceEqDiff, Nat.reduceLT, ↓reduceIte, eq_self, and_self, and_true, true_and, and_false, false_and, if_true, if_false, ite_true, ite_false, sShow1, neqT, neqF]; omega)
    · try simp (disch := omega) only [su_ap, Nat.reduceAdd, Nat.reduceMul, Nat.reduceSub, Nat.reduceDiv, Nat.reduceMod, Nat.reducePow, Nat.reduceEqDiff, Nat.reduceLT, ↓reduceIte, eq_self, and_self, and_true, true_and, and_false, false_and, if_true, if_false, ite_true, ite_false, sShow1, neqT, neqF]
      first
        | omega
        | (have w := n4 j (by omega); omega)
  · exact z9
  · intro j hj
    simp only [su_ap, Nat.reduceAdd, Nat.reduceMul, Nat.reduceSub, Nat.reduceDiv, Nat.reduceMod, Nat.reducePow, Nat.reduceEqDiff, Nat.reduceLT, ↓reduceIte, eq_self, and_self, and_true, true_and, and_false, false_and, if_true, if_false, ite_true, ite_false, sShow1] at hj
    try simp only [su_ap, Nat.reduceAdd, Nat.reduceMul, Nat.reduceSub, Nat.reduceDiv, Nat.reduceMod, Nat.reducePow, Nat.reduceEqDiff, Nat.reduceLT, ↓reduceIte, eq_self, and_self, and_true, true_and, and_false, false_and, if_true, if_false, ite_true, ite_false, sShow1]
    by_cases q : j = S 0 5
    · try subst q
      try simp only [su_ap, Nat.reduceAdd, Nat.reduceMul, Nat.reduceSub, Nat.reduceDiv, Nat.reduceMod, Nat.reducePow, Nat.reduceEqDiff, Nat.reduceLT, ↓reduceIte, eq_self, and_self, and_true, true_and, and_false, false_and, if_true, if_false, ite_true, ite_false, sShow1]
      first
        | omega
        | (have w := z10 _ (by omega); omega)
        | (have w := z10 _ (by omega); simp (disch := omega) only [su_ap, Nat.reduceAdd, Nat.reduceMul, Nat.reduceSub, Nat.reduceDiv, Nat.reduceMod, Nat.reducePow, Nat.reduceEqDiff, Nat.reduceLT, ↓reduceIte, eq_self, and_self, and_true, true_and, and_false, false_and, if_true, if_false, ite_true, ite_false, sShow1, neqT, neqF]; omega)
        | (simp (disch := omega) only [su_ap, Nat.reduceAdd, Nat.reduceMul, Nat.reduceSub, Nat.reduceDiv, Nat.reduceMod, Nat.reducePow, Nat.reduceEqDiff, Nat.reduceLT, ↓reduceIte, eq_self, and_self, and_true, true_and, and_false, false_and, if_true, if_false, ite_true, ite_false, sShow1, neqT, neqF]; omega)
    · try simp (disch := omega) only [su_ap, Nat.reduceAdd, Nat.reduceMul, Nat.reduceSub, Nat.reduceDiv, Nat.reduceMod, Nat.reducePow, Nat.reduceEqDiff, Nat.reduceLT, ↓reduceIte, eq_self, and_self, and_true, true_and, and_false, false_and, if_true, if_false, ite_true, ite_false, sShow1, neqT, neqF]
      first
        | omega
        | (have w := z10 j (by omega); omega)
  · exact z11
  · intro j hj
    simp only [su_ap, Nat.reduceAdd, Nat.reduceMul, Nat.reduceSub, Nat.reduceDiv, Nat.reduceMod, Nat.reducePow, Nat.reduceEqDiff, Nat.reduceLT, ↓reduceIte, eq_self, and_self, and_true, true_and, and_false, false_and, if_true, if_false, ite_true, ite_false, sShow1] at hj
    try simp only [su_ap, Nat.reduceAdd, Nat.reduceMul, Nat.reduceSub, Nat.reduceDiv, Nat.reduceMod, Nat.reducePow, Nat.reduceEqDiff, Nat.reduceLT, ↓reduceIte, eq_self, and_self, and_true, true_and, and_false, false_and, if_true, if_false, ite_true, ite_false, sShow1]
    by_cases q : j = S 0 5
    · try subst q
      try simp only [su_ap, Nat.reduceAdd, Nat.reduceMul, Nat.reduceSub, Nat.reduceDiv, Nat.reduceMod, Nat.reducePow, Nat.reduceEqDiff, Nat.reduceLT, ↓reduceIte, eq_self, and_self, and_true, true_and, and_false, false_and, if_true, if_false, ite_true, ite_false, sShow1]
      first
        | omega
        | (have w := z12 _ (by omega); omega)
        | (have w := z12 _ (by omega); simp (disch := omega) only [su_ap, Nat.reduceAdd, Nat.reduceMul, Nat.reduceSub, Nat.reduceDiv, Nat.reduceMod, Nat.reducePow, Nat.reduceEqDiff, Nat.reduceLT, ↓reduceIte, eq_self, and_self, and_true, true_and, and_false, false_and, if_true, if_false, ite_true, ite_false, sShow1, neqT, neqF]; omega)
        | (simp (disch := omega) only [su_ap, Nat.reduceAdd, Nat.reduceMul, Nat.reduceSub, Nat.reduceDiv, Nat.reduceMod, Nat.reducePow, Nat.reduceEqDiff, Nat.reduceLT, ↓reduceIte, eq_self, and_self, and_true, true_and, and_false, false_and, if_true, if_false, ite_true, ite_false, sShow1, neqT, neqF]; omega)
    · try simp (disch := omega) only [su_ap, Nat.reduceAdd, Nat.reduceMul, Nat.reduceSub, Nat.reduceDiv, Nat.reduceMod, Nat.reducePow, Nat.reduceEqDiff, Nat.reduceLT, ↓reduceIte, eq_self, and_self, and_true, true_and, and_false, false_and, if_true, if_false, ite_true, ite_false, sShow1, neqT, neqF]
      first
        | omega
        | (have w := z12 j (by omega); omega)
  · intro j hj
    simp only [su_ap, Nat.reduceAdd, Nat.reduceMul, Nat.reduceSub, Nat.reduceDiv, Nat.reduceMod, Nat.reducePow, Nat.reduceEqDiff, Nat.reduceLT, ↓reduceIte, eq_self, and_self, and_true, true_and, and_false, false_and, if_true, if_false, ite_true, ite_false, sShow1] at hj
    try simp only [su_ap, Nat.reduceAdd, Nat.reduceMul, Nat.reduceSub, Nat.reduceDiv, Nat.reduceMod, Nat.reducePow, Nat.reduceEqDiff, Nat.reduceLT, ↓reduceIte, eq_self, and_self, and_true, true_and, and_false, false_and, if_true, if_false, ite_true, ite_false, sShow1]
    by_cases q : j = S 0 5
    · try subst q
      try simp only [su_ap, Nat.reduceAdd, Nat.reduceMul, Nat.reduceSub, Nat.reduceDiv, Nat.reduceMod, Nat.reducePow, Nat.reduceEqDiff, Nat.reduceLT, ↓reduceIte, eq_self, and_self, and_true, true_and, and_false, false_and, if_true, if_false, ite_true, ite_false, sShow1]
      first
        | omega
        | (have w := z13 _ (by omega); omega)
        | (have w := z13 _ (by omega); simp (disch := omega) only [su_ap, Nat.reduceAdd, Nat.reduceMul, Nat.reduceSub, Nat.reduceDiv, Nat.reduceMod, Nat.reducePow, Nat.reduceEqDiff, Nat.reduceLT, ↓reduceIte, eq_self, and_self, and_true, true_and, and_false, false_and, if_true, if_false, ite_true, ite_false, sShow1, neqT, neqF]; omega)
        | (simp (disch := omega) only [su_ap, Nat.reduceAdd, Nat.reduceMul, Nat.reduceSub, Nat.reduceDiv, Nat.reduceMod, Nat.reducePow, Nat.reduceEqDiff, Nat.reduceLT, ↓reduceIte, eq_self, and_self, and_true, true_and, and_false, false_and, if_true, if_false, ite_true, ite_false, sShow1, neqT, neqF]; omega)
    · try simp (disch := omega) only [su_ap, Nat.reduceAdd, Nat.reduceMul, Nat.reduceSub, Nat.reduceDiv, Nat.reduceMod, Nat.reducePow, Nat.reduceEqDiff, Nat.reduceLT, ↓reduceIte, eq_self, and_self, and_true, true_and, and_false, false_and, if_true, if_false, ite_true, ite_false, sShow1, neqT, neqF]
      first
        | omega
        | (have w := z13 j (by omega); omega)
set_option maxHeartbeats 1000000 in
theorem sok_noTrial {t : Nat} {S : eS} (hs : sok t S)   : sok t (sNoTrial S) := by
  obtain ⟨z0, z1, z2, z3, z4, z5, z6, z7, ⟨n0, n1, n2, n3, n4⟩, z9, z10, z11, z12, z13⟩ := hs
  refine ⟨?_, ?_, ?_, ?_, ?_, ?_, ?_, ?_, ⟨?_, ?_, ?_, ?_, ?_⟩, ?_, ?_, ?_, ?_, ?_⟩
  · simp (disch := omega) only [su_ap, Nat.reduceAdd, Nat.reduceMul, Nat.reduceSub, Nat.reduceDiv, Nat.reduceMod, Nat.reducePow, Nat.reduceEqDiff, Nat.reduceLT, ↓reduceIte, eq_self, and_self, and_true, true_and, and_false, false_and, if_true, if_false, ite_true, ite_false, sNoTrial, neqT, neqF]; try omega
  · simp (disch := omega) only [su_ap, Nat.reduceAdd, Nat.reduceMul, Nat.reduceSub, Nat.reduceDiv, Nat.reduceMod, Nat.reducePow, Nat.reduceEqDiff, Nat.reduceLT, ↓reduceIte, eq_self, and_self, and_true, true_and, and_false, false_and, if_true, if_false, ite_true, ite_false, sNoTrial, neqT, neqF]; try omega
  · simp (disch := omega) only [su_ap, Nat.reduceAdd, Nat.reduceMul, Nat.reduceSub, Nat.reduceDiv, Nat.reduceMod, Nat.reducePow, Nat.reduceEqDiff, Nat.reduceLT, ↓reduceIte, eq_self, and_self, and_true, true_and, and_false, false_and, if_true, if_false, ite_true, ite_false, sNoTrial, neqT, neqF]; try omega
  · simp (disch := omega) only [su_ap, Nat.reduceAdd, Nat.reduceMul, Nat.reduceSub, Nat.reduceDiv, Nat.reduceMod, Nat.reducePow, Nat.reduceEqDiff, Nat.reduceLT, ↓reduceIte, eq_self, and_self, and_true, true_and, and_false, false_and, if_true, if_false, ite_true, ite_false, sNoTrial, neqT, neqF]; try omega
  · simp (disch := omega) only [su_ap, Nat.reduceAdd, Nat.reduceMul, Nat.reduceSub, Nat.reduceDiv, Nat.reduceMod, Nat.reducePow, Nat.reduceEqDiff, Nat.reduceLT, ↓reduceIte, eq_self, and_self, and_true, true_and, and_false, false_and, if_true, if_false, ite_true, ite_false, sNoTrial, neqT, neqF]; try omega
  · simp (disch := omega) only [su_ap, Nat.reduceAdd, Nat.reduceMul, Nat.reduceSub, Nat.reduceDiv, Nat.reduceMod, Nat.reducePow, Nat.reduceEqDiff, Nat.reduceLT, ↓reduceIte, eq_self, and_self, and_true, true_and, and_false, false_and, if_true, if_false, ite_true, ite_false, sNoTrial, neqT, neqF]; try omega
  · intro j hj
    simp only [su_ap, Nat.reduceAdd, Nat.reduceMul, Nat.reduceSub, Nat.reduceDiv, Nat.reduceMod, Nat.reducePow, Nat.reduceEqDiff, Nat.reduceLT, ↓reduceIte, eq_self, and_self, and_true, true_and, and_false, false_and, if_true, if_false, ite_true, ite_false, sNoTrial] at hj
    try simp only [su_ap, Nat.reduceAdd, Nat.reduceMul, Nat.reduceSub, Nat.reduceDiv, Nat.reduceMod, Nat.reducePow, Nat.reduceEqDiff, Nat.reduceLT, ↓reduceIte, eq_self, and_self, and_true, true_and, and_false, false_and, if_true, if_false, ite_true, ite_false, sNoTrial]
    by_cases q : j = 0
    · try subst q
      try simp only [su_ap, Nat.reduceAdd, Nat.reduceMul, Nat.reduceSub, Nat.reduceDiv, Nat.reduceMod, Nat.reducePow, Nat.reduceEqDiff, Nat.reduceLT, ↓reduceIte, eq_self, and_self, and_true, true_and, and_false, false_and, if_true, if_false, ite_true, ite_false, sNoTrial]
      first
        | omega
        | (have w := z6 _ (by omega); omega)
        | (have w := z6 _ (by omega); simp (disch := omega) only [su_ap, Nat.reduceAdd, Nat.reduceMul, Nat.reduceSub, Nat.reduceDiv, Nat.reduceMod, Nat.reducePow, Nat.reduceEqDiff, Nat.reduceLT, ↓reduceIte, eq_self, and_self, and_true, true_and, and_false, false_and, if_true, if_false, ite_true, ite_false, sNoTrial, neqT, neqF]; omega)
        | (simp (disch := omega) only [su_ap, Nat.reduceAdd, Nat.reduceMul, Nat.reduceSub, Nat.reduceDiv, Nat.reduceMod, Nat.reducePow, Nat.reduceEqDiff, Nat.reduceLT, ↓reduceIte, eq_self, and_self, and_true, true_and, and_false, false_and, if_true, if_false, ite_true, ite_false, sNoTrial, neqT, neqF]; omega)
    · try simp (disch := omega) only [su_ap, Nat.reduceAdd, Nat.reduceMul, Nat.reduceSub, Nat.reduceDiv, Nat.reduceMod, Nat.reducePow, Nat.reduceEqDiff, Nat.reduceLT, ↓reduceIte, eq_self, and_self, and_true, true_and, and_false, false_and, if_true, if_false, ite_true, ite_false, sNoTrial, neqT, neqF]
      first
        | omega
        | (have w := z6 j (by omega); omega)
  · intro j hj
    simp only [su_ap, Nat.reduceAdd, Nat.reduceMul, Nat.reduceSub, Nat.reduceDiv, Nat.reduceMod, Nat.reducePow, Nat.reduceEqDiff, Nat.reduceLT, ↓reduceIte, eq_self, and_self, and_true, true_and, and_false, false_and, if_true, if_false, ite_true, ite_false, sNoTrial] at hj
    try simp only [su_ap, Nat.reduceAdd, Nat.reduceMul, Nat.reduceSub, Nat.reduceDiv, Nat.reduceMod, Nat.reducePow, Nat.reduceEqDiff, Nat.reduceLT, ↓reduceIte, eq_self, and_self, and_true, true_and, and_false, false_and, if_true, if_false, ite_true, ite_false, sNoTrial]
    by_cases q : j = 0
    · try subst q
      try simp only [su_ap, Nat.reduceAdd, Nat.reduceMul, Nat.reduceSub, Nat.reduceDiv, Nat.reduceMod, Nat.reducePow, Nat.reduceEqDiff, Nat.reduceLT, ↓reduceIte, eq_self, and_self, and_true, true_and, and_false, false_and, if_true, if_false, ite_true, ite_false, sNoTrial]
      first
        | omega
        | (have w := z7 _ (by omega); omega)
        | (have w := z7 _ (by omega); simp (disch := omega) only [su_ap, Nat.reduceAdd, Nat.reduceMul, Nat.reduceSub, Nat.reduceDiv, Nat.reduceMod, Nat.reducePow, Nat.reduceEqDiff, Nat.reduceLT, ↓reduceIte, eq_self, and_self, and_true, true_and, and_false, false_and, if_true, if_false, ite_true, ite_false, sNoTrial, neqT, neqF]; omega)
        | (simp (disch := omega) only [su_ap, Nat.reduceAdd, Nat.reduceMul, Nat.reduceSub, Nat.reduceDiv, Nat.reduceMod, Nat.reducePow, Nat.reduceEqDiff, Nat.reduceLT, ↓reduceIte, eq_self, and_self, and_true, true_and, and_false, false_and, if_true, if_false, ite_true, ite_false, sNoTrial, neqT, neqF]; omega)
    · try simp (disch := omega) only [su_ap, Nat.reduceAdd, Nat.reduceMul, Nat.reduceSub, Nat.reduceDiv, Nat.reduceMod, Nat.reducePow, Nat.reduceEqDiff, Nat.reduceLT, ↓reduceIte, eq_self, and_self, and_true, true_and, and_false, false_and, if_true, if_false, ite_true, ite_false, sNoTrial, neqT, neqF]
      first
        | omega
        | (have w := z7 j (by omega); omega)
  · simp (disch := omega) only [su_ap, Nat.reduceAdd, Nat.reduceMul, Nat.reduceSub, Nat.reduceDiv, Nat.reduceMod, Nat.reducePow, Nat.reduceEqDiff, Nat.reduceLT, ↓reduceIte, eq_self, and_self, and_true, true_and, and_false, false_and, if_true, if_false, ite_true, ite_false, sNoTrial, neqT, neqF]; try omega
  · simp (disch := omega) only [su_ap, Nat.reduceAdd, Nat.reduceMul, Nat.reduceSub, Nat.reduceDiv, Nat.reduceMod, Nat.reducePow, Nat.reduceEqDiff, Nat.reduceLT, ↓reduceIte, eq_self, and_self, and_true, true_and, and_false, false_and, if_true, if_false, ite_true, ite_false, sNoTrial, neqT, neqF]; try omega
  · simp (disch := omega) only [su_ap, Nat.reduceAdd, Nat.reduceMul, Nat.reduceSub, Nat.reduceDiv, Nat.reduceMod, Nat.reducePow, Nat.reduceEqDiff, Nat.reduceLT, ↓reduceIte, eq_self, and_self, and_true, true_and, and_false, false_and, if_true, if_false, ite_true, ite_false, sNoTrial, neqT, neqF]; try omega
  · intro j hj
    simp only [su_ap, Nat.reduceAdd, Nat.reduceMul, Nat.reduceSub, Nat.reduceDiv, Nat.reduceMod, Nat.reducePow, Nat.reduceEqDiff, Nat.reduceLT, ↓reduceIte, eq_self, and_self, and_true, true_and, and_false, false_and, if_true, if_false, ite_true, ite_false, sNoTrial] at hj
    try simp only [su_ap, Nat.reduceAdd, Nat.reduceMul, Nat.reduceSub, Nat.reduceDiv, Nat.reduceMod, Nat.reducePow, Nat.reduceEqDiff, Nat.reduceLT, ↓reduceIte, eq_self, and_self, and_true, true_and, and_false, false_and, if_true, if_false, ite_true, ite_false, sNoTrial]
    by_cases q : j = 0
    · try subst q
      try simp only [su_ap, Nat.reduceAdd, Nat.reduceMul, Nat.reduceSub, Nat.reduceDiv, Nat.reduceMod, Nat.reducePow, Nat.reduceEqDiff, Nat.reduceLT, ↓reduceIte, eq_self, and_self, and_true, true_and, and_false, false_and, if_true, if_false, ite_true, ite_false, sNoTrial]
      first
        | omega
        | (have w := n3 _ (by omega); omega)
        | (have w := n3 _ (by omega); simp (disch := omega) only [su_ap, Nat.reduceAdd, Nat.reduceMul, Nat.reduceSub, Nat.reduceDiv, Nat.reduceMod, Nat.reducePow, Nat.reduceEqDiff, Nat.reduceLT, ↓reduceIte, eq_self, and_self, and_true, true_and, and_false, false_and, if_true, if_false, ite_true, ite_false, sNoTrial, neqT, neqF]; omega)
        | (simp (disch := omega) only [su_ap, Nat.reduceAdd, Nat.reduceMul, Nat.reduceSub, Nat.reduceDiv, Nat.reduceMod, Nat.reducePow, Nat.reduceEqDiff, Nat.reduceLT, ↓reduceIte, eq_self, and_self, and_true, true_and, and_false, false_and, if_true, if_false, ite_true, ite_false, sNoTrial, neqT, neqF]; omega)
    · try simp (disch := omega) only [su_ap, Nat.reduceAdd, Nat.reduceMul, Nat.reduceSub, Nat.reduceDiv, Nat.reduceMod, Nat.reducePow, Nat.reduceEqDiff, Nat.reduceLT, ↓reduceIte, eq_self, and_self, and_true, true_and, and_false, false_and, if_true, if_false, ite_true, ite_false, sNoTrial, neqT, neqF]
      first
        | omega
        | (have w := n3 j (by omega); omega)
  · intro j hj
    simp only [su_ap, Nat.reduceAdd, Nat.reduceMul, Nat.reduceSub, Nat.reduceDiv, Nat.reduceMod, Nat.reducePow, Nat.reduceEqDiff, Nat.reduceLT, ↓reduceIte, eq_self, and_self, and_true, true_and, and_false, false_and, if_true, if_false, ite_true, ite_false, sNoTrial] at hj
    try simp only [su_ap, Nat.reduceAdd, Nat.reduceMul, Nat.reduceSub, Nat.reduceDiv, Nat.reduceMod, Nat.reducePow, Nat.reduceEqDiff, Nat.reduceLT, ↓reduceIte, eq_self, and_self, and_true, true_and, and_false, false_and, if_true, if_false, ite_true, ite_false, sNoTrial]
    by_cases q : j = 0
    · try subst q
      try simp only [su_ap, Nat.reduceAdd, Nat.reduceMul, Nat.reduceSub, Nat.reduceDiv, Nat.reduceMod, Nat.reducePow, Nat.reduceEqDiff, Nat.reduceLT, ↓reduceIte, eq_self, and_self, and_true, true_and, and_false, false_and, if_true, if_false, ite_true, ite_false, sNoTrial]
      first
        | omega
        | (have w := n4 _ (by omega); omega)
        | (have w := n4 _ (by omega); simp (disch := omega) only [su_ap, Nat.reduceAdd, Nat.reduceMul, Nat.reduceSub, Nat.reduceDiv, Nat.reduceMod, Nat.reducePow, Nat.reduceEqDiff, Nat.reduceLT, ↓reduceIte, eq_self, and_self, and_true, true_and, and_false, false_and, if_true, if_false, ite_true, ite_false, sNoTrial, neqT, neqF]; omega)
        | (simp (disch := omega) only [su_ap, Nat.reduceAdd, Nat.reduceMul, Nat.reduceSub, Nat.reduceDiv, Nat.reduceMod, Nat.reducePow, Nat.reduceEqDiff, Nat.reduceLT, ↓reduceIte, eq_self, and_self, and_true, true_and, and_false, false_and, if_true, if_false, ite_true, ite_false, sNoTrial, neqT, neqF]; omega)
    · try simp (disch := omega) only [su_ap, Nat.reduceAdd, Nat.reduceMul, Nat.reduceSub, Nat.reduceDiv, Nat.reduceMod, Nat.reducePow, Nat.reduceEqDiff, Nat.reduceLT, ↓reduceIte, eq_self, and_self, and_true, true_and, and_false, false_and, if_true, if_false, ite_true, ite_false, sNoTrial, neqT, neqF]
      first
        | omega
        | (have w := n4 j (by omega); omega)
  · exact z9
  · intro j hj
    simp only [su_ap, Nat.reduceAdd, Nat.reduceMul, Nat.reduceSub, Nat.reduceDiv, Nat.reduceMod, Nat.reducePow, Nat.reduceEqDiff, Nat.reduceLT, ↓reduceIte, eq_self, and_self, and_true, true_and, and_false, false_and, if_true, if_false, ite_true, ite_false, sNoTrial] at hj
    try simp only [su_ap, Nat.reduceAdd, Nat.reduceMul, Nat.reduceSub, Nat.reduceDiv, Nat.reduceMod, Nat.reducePow, Nat.reduceEqDiff, Nat.reduceLT, ↓reduceIte, eq_self, and_self, and_true, true_and, and_false, false_and, if_true, if_false, ite_true, ite_false, sNoTrial]
    by_cases q : j = 0
    · try subst q
      try simp only [su_ap, Nat.reduceAdd, Nat.reduceMul, Nat.reduceSub, Nat.reduceDiv, Nat.reduceMod, Nat.reducePow, Nat.reduceEqDiff, Nat.reduceLT, ↓reduceIte, eq_self, and_self, and_true, true_and, and_false, false_and, if_true, if_false, ite_true, ite_false, sNoTrial]
      first
        | omega
        | (have w := z10 _ (by omega); omega)
        | (have w := z10 _ (by omega); simp (disch := omega) only [su_ap, Nat.reduceAdd, Nat.reduceMul, Nat.reduceSub, Nat.reduceDiv, Nat.reduceMod, Nat.reducePow, Nat.reduceEqDiff, Nat.reduceLT, ↓reduceIte, eq_self, and_self, and_true, true_and, and_false, false_and, if_true, if_false, ite_true, ite_false, sNoTrial, neqT, neqF]; omega)
        | (simp (disch := omega) only [su_ap, Nat.reduceAdd, Nat.reduceMul, Nat.reduceSub, Nat.reduceDiv, Nat.reduceMod, Nat.reducePow, Nat.reduceEqDiff, Nat.reduceLT, ↓reduceIte, eq_self, and_self, and_true, true_and, and_false, false_and, if_true, if_false, ite_true, ite_false, sNoTrial, neqT, neqF]; omega)
    · try simp (disch := omega) only [su_ap, Nat.reduceAdd, Nat.reduceMul, Nat.reduceSub, Nat.reduceDiv, Nat.reduceMod, Nat.reducePow, Nat.reduceEqDiff, Nat.reduceLT, ↓reduceIte, eq_self, and_self, and_true, true_and, and_false, false_and, if_true, if_false, ite_true, ite_false, sNoTrial, neqT, neqF]
      first
        | omega
        | (have w := z10 j (by omega); omega)
  · exact z11
  · intro j hj
    simp only [su_ap, Nat.reduceAdd, Nat.reduceMul, Nat.reduceSub, Nat.reduceDiv, Nat.reduceMod, Nat.reducePow, Nat.reduceEqDiff, Nat.reduceLT, ↓reduceIte, eq_self, and_self, and_true, true_and, and_false, false_and, if_true, if_false, ite_true, ite_false, sNoTrial] at hj
    try simp only [su_ap, Nat.reduceAdd, Nat.reduceMul, Nat.reduceSub, Nat.reduceDiv, Nat.reduceMod, Nat.reducePow, Nat.reduceEqDiff, Nat.reduceLT, ↓reduceIte, eq_self, and_self, and_true, true_and, and_false, false_and, if_true, if_false, ite_true, ite_false, sNoTrial]
    by_cases q : j = 0
    · try subst q
      try simp only [su_ap, Nat.reduceAdd, Nat.reduceMul, Nat.reduceSub, Nat.reduceDiv, Nat.reduceMod, Nat.reducePow, Nat.reduceEqDiff, Nat.reduceLT, ↓reduceIte, eq_self, and_self, and_true, true_and, and_false, false_and, if_true, if_false, ite_true, ite_false, sNoTrial]
      first
        | omega
        | (have w := z12 _ (by omega); omega)
        | (have w := z12 _ (by omega); simp (disch := omega) only [su_ap, Nat.reduceAdd, Nat.reduceMul, Nat.reduceSub, Nat.reduceDiv, Nat.reduceMod, Nat.reducePow, Nat.reduceEqDiff, Nat.reduceLT, ↓reduceIte, eq_self, and_self, and_true, true_and, and_false, false_and, if_true, if_false, ite_true, ite_false, sNoTrial, neqT, neqF]; omega)
        | (simp (disch := omega) only [su_ap, Nat.reduceAdd, Nat.reduceMul, Nat.reduceSub, Nat.reduceDiv, Nat.reduceMod, Nat.reducePow, Nat.reduceEqDiff, Nat.reduceLT, ↓reduceIte, eq_self, and_self, and_true, true_and, and_false, false_and, if_true, if_false, ite_true, ite_false, sNoTrial, neqT, neqF]; omega)
    · try simp (disch := omega) only [su_ap, Nat.reduceAdd, Nat.reduceMul, Nat.reduceSub, Nat.reduceDiv, Nat.reduceMod, Nat.reducePow, Nat.reduceEqDiff, Nat.reduceLT, ↓reduceIte, eq_self, and_self, and_true, true_and, and_false, false_and, if_true, if_false, ite_true, ite_false, sNoTrial, neqT, neqF]
      first
        | omega
        | (have w := z12 j (by omega); omega)
  · intro j hj
    simp only [su_ap, Nat.reduceAdd, Nat.reduceMul, Nat.reduceSub, Nat.reduceDiv, Nat.reduceMod, Nat.reducePow, Nat.reduceEqDiff, Nat.reduceLT, ↓reduceIte, eq_self, and_self, and_true, true_and, and_false, false_and, if_true, if_false, ite_true, ite_false, sNoTrial] at hj
    try simp only [su_ap, Nat.reduceAdd, Nat.reduceMul, Nat.reduceSub, Nat.reduceDiv, Nat.reduceMod, Nat.reducePow, Nat.reduceEqDiff, Nat.reduceLT, ↓reduceIte, eq_self, and_self, and_true, true_and, and_false, false_and, if_true, if_false, ite_true, ite_false, sNoTrial]
    by_cases q : j = 0
    · try subst q
      try simp only [su_ap, Nat.reduceAdd, Nat.reduceMul, Nat.reduceSub, Nat.reduceDiv, Nat.reduceMod, Nat.reducePow, Nat.reduceEqDiff, Nat.reduceLT, ↓reduceIte, eq_self, and_self, and_true, true_and, and_false, false_and, if_true, if_false, ite_true, ite_false, sNoTrial]
      first
        | omega
        | (have w := z13 _ (by omega); omega)
        | (have w := z13 _ (by omega); simp (disch := omega) only [su_ap, Nat.reduceAdd, Nat.reduceMul, Nat.reduceSub, Nat.reduceDiv, Nat.reduceMod, Nat.reducePow, Nat.reduceEqDiff, Nat.reduceLT, ↓reduceIte, eq_self, and_self, and_true, true_and, and_false, false_and, if_true, if_false, ite_true, ite_false, sNoTrial, neqT, neqF]; omega)
        | (simp (disch := omega) only [su_ap, Nat.reduceAdd, Nat.reduceMul, Nat.reduceSub, Nat.reduceDiv, Nat.reduceMod, Nat.reducePow, Nat.reduceEqDiff, Nat.reduceLT, ↓reduceIte, eq_self, and_self, and_true, true_and, and_false, false_and, if_true, if_false, ite_true, ite_false, sNoTrial, neqT, neqF]; omega)
    · try simp (disch := omega) only [su_ap, Nat.reduceAdd, Nat.reduceMul, Nat.reduceSub, Nat.reduceDiv, Nat.reduceMod, Nat.reducePow, Nat.reduceEqDiff, Nat.reduceLT, ↓reduceIte, eq_self, and_self, and_true, true_and, and_false, false_and, if_true, if_false, ite_true, ite_false, sNoTrial, neqT, neqF]
      first
        | omega
        | (have w := z13 j (by omega); omega)

/-! new int[N][K] -/
theorem qI_app {g : qG} {h hs : qH} {H H1 : Heap} (hI : qI g h H) (hm : h.length + hs.length ≤ 1000000) (hz : H1.size = H.size + hs.length) (hc : ∀ (j : Nat) (c : qC), hs[j]? = some c → va_at g.2.1 vwCl (g.1 + (h.length + j), qc g c) H1) (ho : ∀ q : Nat, q < H.size → H1[q]? = H[q]?) : qI g (h ++ hs) H1 := by
  refine ⟨by rw [hz, hI.1, List.length_append]; omega, by rw [List.length_append]; exact hm, fun k q hk => ?_⟩
  obtain ⟨c, hc1, rfl⟩ := qw_of hk
  by_cases hl : k < h.length
  · rw [List.getElem?_append_left hl] at hc1
    have h1 := hI.2.2 k _ (qw_at hc1)
    exact h1.kept (ho _ h1.lt)
  · rw [List.getElem?_append_right (by omega)] at hc1
    have h1 := hc _ _ hc1
    rw [show h.length + (k - h.length) = k by omega] at h1
    exact h1
theorem q_outer (c : ClassId) (N h0 : Nat) : ∀ i : Nat, Jvm.Free.Multi.outerC c N h0 i = arrV c N (fun j => va_rf (if j < i then some (h0 + 1 + j) else none))
  | 0 => by
    show ({ cls := c, slots := Array.replicate N .null, vm := .none } : Cell) = _
    rw [arrV_new]
    refine congrArg (arrV c N) (funext fun j => ?_)
    simp [va_rf]
  | i + 1 => by
    show (Jvm.Free.Multi.outerC c N h0 i).setSlot i (.ref (h0 + 1 + i)) = _
    rw [q_outer c N h0 i, arrV_store]
    refine congrArg (arrV c N) (funext fun j => ?_)
    by_cases e : j = i
    · subst e
      simp [updV, va_rf]
    · by_cases h : j < i
      · simp [updV, e, h, Nat.lt_succ_of_lt h]
      · simp [updV, e, h, show ¬ j < i + 1 by omega]
theorem q_mna {l : Launch} {g : qG} {M : qMt} {d n mc ms ce sl : Nat} {Z : List Frame → Array Value → State → State → Prop} {pc idx : Nat} {lv : List (Nat × Value)} {st : List Value} {h : qH} {i k : Int32} {N K : Nat} (hd : decode M.2.1 pc = .ok (.multianewarray idx 2, 4)) (w1 : Cond.classLink M.1.cls idx "[[I" ∈ qtb) (w2 : Cond.arrayOver (.array .int) ∈ lw_tbl) (w3 : Cond.arrayClass .int ∈ lw_tbl)
    (hi : ¬ i < 0) (hk : ¬ k < 0) (hN : i.toNatClampNeg = N) (hK : k.toNatClampNeg = K) (hb : N ≤ 1000) (hb2 : K ≤ 1000) (hm : h.length + (1 + N) ≤ 1000000) (hc : ce + (1 + N) ≤ mc) (hs0 : sl + (N + N * K) ≤ ms)
    (kk : qV l g M d n mc ms (ce + 1 + N) (sl + N + N * K) Z (pc + 4) lv (.ref h.length :: st) (h ++ (.inr (.inl (2, N, fun j => if j < N then some (h.length + 1 + j) else none)) :: List.replicate N (.inl (0, K, fun _ => 0))))) : qV l g M d n mc ms ce sl Z pc lv (.int k :: .int i :: st) h := by
  intro p e s m args below meth c H locs ls hF hs hn hl hI hS T hT X
  subst hN; subst hK
  have hTt := hF.2.2.2.2.2.2.2.2
  have hKs := hF.2.2.2.2.2.2.2.1
  obtain ⟨vm₁, cA, comp, -, fA, fC, hO, -, X', step⟩ := X.multianewarray2F hF.1 hF.2.2.2.2.1 (hTt _ w1) (hKs.2.1.2.1 _ w2 args) (hKs.2.1.2.2 _ w3 args) (g := F0 m pc ls (.int k :: .int i :: st.map (qv g))) rfl (by rw [hF.2.1]; exact hd) rfl hi hk (by omega) (by show _ * 4 ≤ 536870912; omega) (by omega) rfl rfl hc hs0
  have hcA : cA = g.2.2.1 4 := Option.some.inj (fA.symm.trans (hKs.1.2 4 _ rfl).2)
  have hcC : comp = g.2.2.1 0 := Option.some.inj (fC.symm.trans (hKs.1.2 0 _ rfl).2)
  subst hcA; subst hcC
  obtain ⟨f1, f2, -, -⟩ := Jvm.Free.Multi.fill_facts (T.setVm vm₁) (g.2.2.1 4) (g.2.2.1 0) i.toNatClampNeg k.toNatClampNeg (defaultValue .int) i.toNatClampNeg
  have hold := fun (x : Nat) (hx : x < H.size) => Jvm.Free.Multi.fill_old (T.setVm vm₁) (g.2.2.1 4) (g.2.2.1 0) i.toNatClampNeg k.toNatClampNeg (defaultValue .int) (a := x) (by show x < T.heap.size; rw [hT]; exact hx) i.toNatClampNeg
  have hrow := fun (j : Nat) (hj : j < i.toNatClampNeg) => Jvm.Free.Multi.fill_inner (T.setVm vm₁) (g.2.2.1 4) (g.2.2.1 0) i.toNatClampNeg k.toNatClampNeg (defaultValue .int) i.toNatClampNeg j hj
  generalize Jvm.Free.Multi.fill (T.setVm vm₁) (g.2.2.1 4) (g.2.2.1 0) i.toNatClampNeg k.toNatClampNeg (defaultValue .int) i.toNatClampNeg = F at X' step f1 f2 hold hrow
  have hTh : (T.setVm vm₁).heap = H := hT
  rw [hTh] at f1 f2 hold hrow
  rw [q_outer] at f2
  have hI1 : qI g (h ++ (.inr (.inl (2, i.toNatClampNeg, fun j => if j < i.toNatClampNeg then some (h.length + 1 + j) else none)) :: List.replicate i.toNatClampNeg (.inl (0, k.toNatClampNeg, fun _ => 0)))) F.heap := by
    refine qI_app hI ?_ ?_ ?_ hold
    · simp only [List.length_cons, List.length_replicate]; omega
    · simp only [List.length_cons, List.length_replicate]; omega
    · intro j c hj
      cases j with
      | zero =>
        rw [List.getElem?_cons_zero] at hj
        cases hj
        show F.heap[g.1 + (h.length + 0)]? = some (vp_cell (g.2.2.1 4) (i.toNatClampNeg, .inr (.inr (.inr (.inr (fun j => (if j < i.toNatClampNeg then some (h.length + 1 + j) else none).map (qad g)))))))
        rw [vp_cell_q, Nat.add_zero, ← hI.1, f2]
        congr 2
        funext j
        by_cases hj : j < i.toNatClampNeg
        · show va_rf (if j < i.toNatClampNeg then some (H.size + 1 + j) else none) = va_rf (Option.map (qad g) (if j < i.toNatClampNeg then some (h.length + 1 + j) else none))
          rw [if_pos hj, if_pos hj]
          show Value.ref (H.size + 1 + j) = Value.ref (qad g (h.length + 1 + j))
          unfold qad
          rw [if_pos (by omega), hI.1, Nat.add_assoc, Nat.add_assoc, Nat.add_assoc]
        · show va_rf (if j < i.toNatClampNeg then some (H.size + 1 + j) else none) = va_rf (Option.map (qad g) (if j < i.toNatClampNeg then some (h.length + 1 + j) else none))
          rw [if_neg hj, if_neg hj]
          rfl
      | succ j =>
        rw [List.getElem?_cons_succ] at hj
        have hjl : j < i.toNatClampNeg := by
          have := (List.getElem?_eq_some_iff.mp hj).1
          rw [List.length_replicate] at this
          exact this
        rw [List.getElem?_replicate_of_lt hjl] at hj
        cases hj
        have hr := hrow j hjl
        rw [hI.1] at hr
        show F.heap[g.1 + (h.length + (j + 1))]? = some (vp_cell (g.2.2.1 0) (k.toNatClampNeg, .inl (fun _ => 0)))
        rw [show g.1 + (h.length + (j + 1)) = g.1 + h.length + 1 + j by omega, hr]
        show some ({ cls := g.2.2.1 0, slots := Array.replicate k.toNatClampNeg (.int 0), vm := .none } : Cell) = _
        rw [arrV_new]
        rfl
  have e2 : (.ref H.size :: st.map (qv g) : List Value) = (.ref h.length :: st : List Value).map (qv g) := by
    show _ = .ref (qad g h.length) :: st.map (qv g)
    unfold qad
    rw [if_pos (by omega), hI.1]
  obtain ⟨t, a1, b1⟩ := kk p e s m args below meth c F.heap locs ls hF hs (by simp only [List.length_append, List.length_cons, List.length_replicate]; omega) hl hI1
    ⟨by rw [f1]; have := hS.1; omega, fun x h1 h2 => (hold x (Nat.lt_of_lt_of_le h1 hS.1)).trans (hS.2.1 x h1 h2), hS.2.2⟩ F rfl X'
  refine ⟨t, step t ?_, b1⟩
  rw [← e2] at a1
  have e : T.heap.size = H.size := by rw [hT]
  rw [e]
  exact a1

/-! rows that make cells, and rows of references -/
theorem q_dfl (g : qG) (t : FieldType) : qv g (defaultValue t) = defaultValue t := by cases t <;> rfl
theorem qI_push {g : qG} {h : qH} {H H1 : Heap} {c : qC} (hI : qI g h H) (hm : h.length < 1000000) (hz : H1.size = H.size + 1) (hc : va_at g.2.1 vwCl (g.1 + h.length, qc g c) H1) (ho : ∀ q : Nat, q < H.size → H1[q]? = H[q]?) : qI g (h ++ [c]) H1 := by
  refine ⟨by rw [hz, hI.1, List.length_append]; rfl, by rw [List.length_append]; exact hm, ?_⟩
  rw [← qw_push]
  refine (hI.2.2.kept (fun k x hx => ho x.1 ((hI.2.2 k x hx).lt))).app (fun k x hx => ?_)
  have h0 : k < 1 := (List.getElem?_eq_some_iff.mp hx).1
  rw [show k = 0 by omega] at hx
  cases hx
  exact hc
theorem q_Spush {g : qG} {H0 H H1 : Heap} {locs : List Loc} (hS : va_S (qA g) H0 H locs) (hz : H1.size = H.size + 1) (ho : ∀ q : Nat, q < H.size → H1[q]? = H[q]?) : va_S (qA g) H0 H1 locs :=
  ⟨Nat.le_trans hS.1 (by omega), fun x h1 h2 => (ho x (Nat.lt_of_lt_of_le h1 hS.1)).trans (hS.2.1 x h1 h2), hS.2.2⟩
/-- a class that can be made -/
def okN (own : String) (idx ci N : Nat) (fs : List Value) : Prop := ∃ (C : String) (T : u_T) (tf : Nat → FieldType), okC ci C T N tf ∧ Cond.classLink own idx C ∈ qtb ∧ Cond.instantiable C N ∈ qtb ∧ Cond.initialized C ∈ qtb ∧ fs = (List.range N).map (fun j => defaultValue (tf j))
section QN
variable {l : Launch} {g : qG} {M : qMt} {d n mc ms ce sl : Nat} {Z : List Frame → Array Value → State → State → Prop} {pc idx : Nat} {lv : List (Nat × Value)} {st : List Value} {h : qH}
theorem q_new {ci N : Nat} {fs : List Value} (hd : decode M.2.1 pc = .ok (.new idx, 3)) (hw : okN M.1.cls idx ci N fs) (hm : h.length < 1000000) (hc : ce + 1 ≤ mc) (hs0 : sl + N ≤ ms)
    (kk : qV l g M d n mc ms (ce + 1) (sl + N) Z (pc + 3) lv (.ref h.length :: st) (h ++ [.inr (.inr (ci, fs))])) : qV l g M d n mc ms ce sl Z pc lv st h := by
  intro p e s m args below meth c H locs ls hF hs hn hl hI hS
  have hT := hF.2.2.2.2.2.2.2.2
  have hK := hF.2.2.2.2.2.2.2.1
  obtain ⟨C, T, tf, hC, w1, w2, w3, hfs⟩ := hw
  have hKn := hK.1.1 ci _ hC.1
  refine W.newcK hF.1 hF.2.1 hF.2.2.2.2.1 (hT _ w1) (hT _ w2) (hT _ w3) (g := F0 m pc ls (st.map (qv g))) rfl hd hc hs0 hKn.2.1 rfl fun H1 kC hkC e1 z1 o1 => ?_
  have hI1 : qI g (h ++ [.inr (.inr (ci, fs))]) H1 := by
    refine qI_push hI hm z1 ?_ o1
    refine ⟨_, hC.1, ?_⟩
    have hb := u_born (o := H.size) tf hT hC.2.1 hKn hkC e1 hC.2.2.1
    rw [hI.1] at hb
    refine hb.to (fun k hk => ?_)
    show defaultValue (tf k) = vp_V (fs.map (qv g)) k
    unfold vp_V
    rw [hfs, List.map_map, List.getD_eq_getElem?_getD, List.getElem?_map, List.getElem?_range hk]
    exact (q_dfl g (tf k)).symm
  have e2 : (.ref H.size :: st.map (qv g) : List Value) = (.ref h.length :: st : List Value).map (qv g) := by
    show _ = .ref (qad g h.length) :: st.map (qv g)
    unfold qad
    rw [if_pos hm, hI.1]
  show W _ _ _ _ _ _ _ _ _ _ _ _ _ _ _ (F0 m (pc + 3) ls (.ref H.size :: st.map (qv g)))
  rw [e2]
  exact kk p e s m args below meth c H1 locs ls hF hs (by rw [List.length_append]; show h.length + 1 = _; omega) hl hI1 (q_Spush hS z1 o1)
theorem q_newarray {i : Int32} {N : Nat} (hd : decode M.2.1 pc = .ok (.newarray .int, 2)) (hw : Cond.arrayClass .int ∈ lw_tbl) (hi : ¬ i < 0) (hN : i.toNatClampNeg = N) (hb : N ≤ 100000) (hm : h.length < 1000000) (hc : ce + 1 ≤ mc) (hs0 : sl + N ≤ ms)
    (kk : qV l g M d n mc ms (ce + 1) (sl + N) Z (pc + 2) lv (.ref h.length :: st) (h ++ [.inl (0, N, fun _ => 0)])) : qV l g M d n mc ms ce sl Z pc lv (.int i :: st) h := by
  intro p e s m args below meth c H locs ls hF hs hn hl hI hS
  have hK := hF.2.2.2.2.2.2.2.1
  refine va_newaK (atype := .int) hF.1 hF.2.1 (hK.2.1.2.2 _ hw args) (g := F0 m pc ls (.int i :: st.map (qv g))) rfl hd rfl hi hN (by show N * 4 ≤ 536870912; omega) hc hs0 rfl fun H1 cA e1 z1 o1 hAr hNm => ?_
  have hcA : cA = g.2.2.1 0 := Option.some.inj (hNm.symm.trans (hK.1.2 0 _ rfl).2)
  subst hcA
  have hI1 : qI g (h ++ [.inl (0, N, fun _ => 0)]) H1 := by
    refine qI_push hI hm z1 ?_ o1
    show H1[g.1 + h.length]? = some (vp_cell _ _)
    rw [← hI.1, e1]
    rfl
  have e2 : (.ref H.size :: st.map (qv g) : List Value) = (.ref h.length :: st : List Value).map (qv g) := by
    show _ = .ref (qad g h.length) :: st.map (qv g)
    unfold qad
    rw [if_pos hm, hI.1]
  show W _ _ _ _ _ _ _ _ _ _ _ _ _ _ _ (F0 m (pc + 2) ls (.ref H.size :: st.map (qv g)))
  rw [e2]
  exact kk p e s m args below meth c H1 locs ls hF hs (by rw [List.length_append]; show h.length + 1 = _; omega) hl hI1 (q_Spush hS z1 o1)
theorem q_newarrayZ {i : Int32} {N : Nat} (hd : decode M.2.1 pc = .ok (.newarray .boolean, 2)) (hw : Cond.arrayClass .boolean ∈ lw_tbl) (hi : ¬ i < 0) (hN : i.toNatClampNeg = N) (hb : N ≤ 100000) (hm : h.length < 1000000) (hc : ce + 1 ≤ mc) (hs0 : sl + N ≤ ms)
    (kk : qV l g M d n mc ms (ce + 1) (sl + N) Z (pc + 2) lv (.ref h.length :: st) (h ++ [.inl (1, N, fun _ => 0)])) : qV l g M d n mc ms ce sl Z pc lv (.int i :: st) h := by
  intro p e s m args below meth c H locs ls hF hs hn hl hI hS
  have hK := hF.2.2.2.2.2.2.2.1
  refine va_newaK (atype := .boolean) hF.1 hF.2.1 (hK.2.1.2.2 _ hw args) (g := F0 m pc ls (.int i :: st.map (qv g))) rfl hd rfl hi hN (by show N * 1 ≤ 536870912; omega) hc hs0 rfl fun H1 cA e1 z1 o1 hAr hNm => ?_
  have hcA : cA = g.2.2.1 1 := Option.some.inj (hNm.symm.trans (hK.1.2 1 _ rfl).2)
  subst hcA
  have hI1 : qI g (h ++ [.inl (1, N, fun _ => 0)]) H1 := by
    refine qI_push hI hm z1 ?_ o1
    show H1[g.1 + h.length]? = some (vp_cell _ _)
    rw [← hI.1, e1]
    rfl
  have e2 : (.ref H.size :: st.map (qv g) : List Value) = (.ref h.length :: st : List Value).map (qv g) := by
    show _ = .ref (qad g h.length) :: st.map (qv g)
    unfold qad
    rw [if_pos hm, hI.1]
  show W _ _ _ _ _ _ _ _ _ _ _ _ _ _ _ (F0 m (pc + 2) ls (.ref H.size :: st.map (qv g)))
  rw [e2]
  exact kk p e s m args below meth c H1 locs ls hF hs (by rw [List.length_append]; show h.length + 1 = _; omega) hl hI1 (q_Spush hS z1 o1)
theorem q_anewarray {i : Int32} {N t : Nat} {C : String} (hd : decode M.2.1 pc = .ok (.anewarray idx, 3)) (ht : t = 0 ∧ C = RX5 ∨ t = 1 ∧ C = RX2) (hw : Cond.classLink M.1.cls idx C ∈ qtb) (hw2 : Cond.arrayOver (.object C) ∈ lw_tbl) (hi : ¬ i < 0) (hN : i.toNatClampNeg = N) (hb : N ≤ 100000) (hm : h.length < 1000000) (hc : ce + 1 ≤ mc) (hs0 : sl + N ≤ ms)
    (kk : qV l g M d n mc ms (ce + 1) (sl + N) Z (pc + 3) lv (.ref h.length :: st) (h ++ [.inr (.inl (t, N, fun _ => none))])) : qV l g M d n mc ms ce sl Z pc lv (.int i :: st) h := by
  intro p e s m args below meth c H locs ls hF hs hn hl hI hS
  have hT := hF.2.2.2.2.2.2.2.2
  have hK := hF.2.2.2.2.2.2.2.1
  subst hN
  refine W.anew hF.1 hF.2.1 hF.2.2.2.2.1 (hT _ hw) (hK.2.1.2.1 _ hw2 args) (g := F0 m pc ls (.int i :: st.map (qv g))) rfl hd rfl hi (by omega) hc hs0 fun cA kA comp f1 f2 f3 f4 => ?_
  generalize hH1 : H.push ({ cls := cA, slots := Array.replicate i.toNatClampNeg .null, vm := .none } : Cell) = H1
  have z1 : H1.size = H.size + 1 := by rw [← hH1, Array.size_push]
  have e1 : H1[H.size]? = some (arrV cA i.toNatClampNeg (fun _ => .null)) := by rw [← hH1, Array.getElem?_push_size, ← arrV_new]
  have o1 : ∀ q : Nat, q < H.size → H1[q]? = H[q]? := fun q hq => by rw [← hH1, Array.getElem?_push, if_neg (Nat.ne_of_lt hq)]
  have hcA : cA = g.2.2.1 (t + 2) := by
    rcases ht with ⟨rfl, rfl⟩ | ⟨rfl, rfl⟩
    · obtain ⟨-, -, -, -, -, hf⟩ := (hK.1.2 2 _ rfl).2
      exact Option.some.inj (f1.symm.trans hf)
    · obtain ⟨-, -, -, -, -, hf⟩ := (hK.1.2 3 _ rfl).2
      exact Option.some.inj (f1.symm.trans hf)
  have hI1 : qI g (h ++ [.inr (.inl (t, i.toNatClampNeg, fun _ => none))]) H1 := by
    refine qI_push hI hm z1 ?_ o1
    show H1[g.1 + h.length]? = some (vp_cell _ _)
    rw [← hI.1, e1, hcA]
    rfl
  have e2 : (.ref H.size :: st.map (qv g) : List Value) = (.ref h.length :: st : List Value).map (qv g) := by
    show _ = .ref (qad g h.length) :: st.map (qv g)
    unfold qad
    rw [if_pos hm, hI.1]
  show W _ _ _ _ _ _ _ _ _ _ _ _ _ _ _ (F0 m (pc + 3) ls (.ref H.size :: st.map (qv g)))
  rw [e2]
  exact kk p e s m args below meth c H1 locs ls hF hs (by rw [List.length_append]; show h.length + 1 = _; omega) hl hI1 (q_Spush hS z1 o1)
theorem q_upmap (g : qG) (f : Nat → Option Nat) (k v : Nat) : (fun i => (va_up f k (some v) i).map (qad g)) = va_up (fun i => (f i).map (qad g)) k (some (qad g v)) := by
  funext i
  unfold va_up
  by_cases e : i = k
  · rw [if_pos e, if_pos e]; rfl
  · rw [if_neg e, if_neg e]
/-- a kind of plots into the row of kinds (an own class, or one under it) -/
theorem q_aastoreK {a b ci N : Nat} {f : Nat → Option Nat} {fs : List Value} {r : vw_C} {i : Int32} (hd : decode M.2.1 pc = .ok (.aastore, 1)) (ha : h[a]? = some (.inr (.inl (0, N, f)))) (hb : h[b]? = some (.inr (.inr (ci, fs)))) (hr : vwCl[ci]? = some r) (hca : r.1 = RX5 ∨ Cond.castable r.1 RX5 ∈ qtb) (hi : vp_in i N)
    (kk : qV l g M d n mc ms ce sl Z (pc + 1) lv st (h.set a (.inr (.inl (0, N, va_up f i.toNatClampNeg (some b)))))) : qV l g M d n mc ms ce sl Z pc lv (.ref b :: .int i :: .ref a :: st) h := by
  intro p e s m args below meth c H locs ls hF hs hn hl hI hS
  have hK := hF.2.2.2.2.2.2.2.1
  have hal : a < h.length := (List.getElem?_eq_some_iff.mp ha).1
  show W _ _ _ _ _ _ _ _ _ _ _ _ _ _ _ (F0 m pc ls (.ref (qad g b) :: .int i :: .ref (qad g a) :: st.map (qv g)))
  have hqb := qI_lt hI hb
  have key : ∀ (H1 : Heap) (locs1 : List Loc), va_P g.2.1 vwCl ((qw g h).set a (g.1 + a, .inl (g.2.2.1 2, N, .inr (.inr (.inr (.inr (va_up (fun i => (f i).map (qad g)) i.toNatClampNeg (some (qad g b))))))))) H1 → va_S (qA g) s.heap H1 locs1 → W p l e (qRm d mc ms) s m args below meth c H1 locs1 ce sl (Z below args s) (F0 m (pc + 1) ls (st.map (qv g))) := by
    intro H1 locs1 hP1 hS1
    refine W_sz fun hz => ?_
    have e1 := qw_set g h a (.inr (.inl (0, N, va_up f i.toNatClampNeg (some b))))
    have hP1 : va_P g.2.1 vwCl (qw g (h.set a (.inr (.inl (0, N, va_up f i.toNatClampNeg (some b)))))) H1 := by
      rw [← e1]
      show va_P g.2.1 vwCl ((qw g h).set a (g.1 + a, .inl (g.2.2.1 2, N, .inr (.inr (.inr (.inr (fun j => (va_up f i.toNatClampNeg (some b) j).map (qad g)))))))) H1
      rw [q_upmap]
      exact hP1
    exact kk p e s m args below meth c H1 locs1 ls hF hs (by rw [List.length_set]; exact hn) hl (qI_of (k := a) (c := .inr (.inl (0, N, va_up f i.toNatClampNeg (some b)))) hs (by rw [List.length_set]; exact hn) (by rw [List.length_set]; exact hI.2.1) (by rw [List.getElem?_set_self hal]) hz hP1) hS1
  rw [hqb] at key ⊢
  rw [qI_lt hI ha]
  rcases hca with hca | hca
  · exact va_astq (D := g.2.1) (cl := vwCl) (cA := g.2.2.1 2) (r := r) (n := N) (f := fun i => (f i).map (qad g)) (vs := fs.map (qv g)) hF.1 hF.2.1 hK.1 hI.2.2 (qw_D g h) hS a 2 b ci (qw_at ha) (by rw [hca]; rfl) (qw_at hb) hr hi hd (fun H1 locs1 hP1 _ hS1 => key H1 locs1 hP1 hS1)
  · exact va_astqO (D := g.2.1) (cl := vwCl) (E := RX5) (cA := g.2.2.1 2) (r := r) (n := N) (f := fun i => (f i).map (qad g)) (vs := fs.map (qv g)) hF.1 hF.2.1 hK.1 hI.2.2 (qw_D g h) hS a 2 b ci (qw_at ha) rfl (hK.2.1.1 _ hca) (qw_at hb) hr hi hd (fun H1 locs1 hP1 _ hS1 => key H1 locs1 hP1 hS1)
/-- a life into the row of images -/
theorem q_aastoreL {a b N : Nat} {f : Nat → Option Nat} {fs : List Value} {i : Int32} (hd : decode M.2.1 pc = .ok (.aastore, 1)) (ha : h[a]? = some (.inr (.inl (1, N, f)))) (hb : h[b]? = some (.inr (.inr (2, fs)))) (hi : vp_in i N)
    (kk : qV l g M d n mc ms ce sl Z (pc + 1) lv st (h.set a (.inr (.inl (1, N, va_up f i.toNatClampNeg (some b)))))) : qV l g M d n mc ms ce sl Z pc lv (.ref b :: .int i :: .ref a :: st) h := by
  intro p e s m args below meth c H locs ls hF hs hn hl hI hS
  have hK := hF.2.2.2.2.2.2.2.1
  have hal : a < h.length := (List.getElem?_eq_some_iff.mp ha).1
  show W _ _ _ _ _ _ _ _ _ _ _ _ _ _ _ (F0 m pc ls (.ref (qad g b) :: .int i :: .ref (qad g a) :: st.map (qv g)))
  rw [qI_lt hI ha, qI_lt hI hb]
  refine va_astq (D := g.2.1) (cl := vwCl) (cA := g.2.2.1 3) (r := (RX2, TX2, 11)) (n := N) (f := fun i => (f i).map (qad g)) (vs := fs.map (qv g)) hF.1 hF.2.1 hK.1 hI.2.2 (qw_D g h) hS a 3 b 2 (qw_at ha) rfl (qw_at hb) rfl hi hd (fun H1 locs1 hP1 _ hS1 => ?_)
  refine W_sz fun hz => ?_
  have e1 := qw_set g h a (.inr (.inl (1, N, va_up f i.toNatClampNeg (some b))))
  have hP1 : va_P g.2.1 vwCl (qw g (h.set a (.inr (.inl (1, N, va_up f i.toNatClampNeg (some b)))))) H1 := by
    rw [← e1]
    show va_P g.2.1 vwCl ((qw g h).set a (g.1 + a, .inl (g.2.2.1 3, N, .inr (.inr (.inr (.inr (fun j => (va_up f i.toNatClampNeg (some b) j).map (qad g)))))))) H1
    rw [q_upmap, qI_lt hI hb]
    exact hP1
  exact kk p e s m args below meth c H1 locs1 ls hF hs (by rw [List.length_set]; exact hn) hl (qI_of (k := a) (c := .inr (.inl (1, N, va_up f i.toNatClampNeg (some b)))) hs (by rw [List.length_set]; exact hn) (by rw [List.length_set]; exact hI.2.1) (by rw [List.getElem?_set_self hal]) hz hP1) hS1
theorem q_aaload2 {a N : Nat} {f : Nat → Option Nat} {i : Int32} (hd : decode M.2.1 pc = .ok (.aaload, 1)) (hc : h[a]? = some (.inr (.inl (2, N, f)))) (hi : vp_in i N) (kk : qV l g M d n mc ms ce sl Z (pc + 1) lv (va_rf (f i.toNatClampNeg) :: st) h) : qV l g M d n mc ms ce sl Z pc lv (.int i :: .ref a :: st) h := by
  intro p e s m args below meth c H locs ls hF hs hn hl hI hS
  show W _ _ _ _ _ _ _ _ _ _ _ _ _ _ _ (F0 m pc ls (.int i :: .ref (qad g a) :: st.map (qv g)))
  rw [qI_lt hI hc]
  have e1 : va_rf ((f i.toNatClampNeg).map (qad g)) = qv g (va_rf (f i.toNatClampNeg)) := by cases f i.toNatClampNeg <;> rfl
  have hk := kk p e s m args below meth c H locs ls hF hs hn hl hI hS
  have hk : W p l e (qRm d mc ms) s m args below meth c H locs ce sl (Z below args s) (F0 m (pc + 1) ls (va_rf ((f i.toNatClampNeg).map (qad g)) :: st.map (qv g))) := by rw [e1]; exact hk
  have hlt : i.toNatClampNeg < N := Nat.not_le.mp fun q => hi (Or.inr q)
  have hcell : H[g.1 + a]? = some (arrV (g.2.2.1 4) N (fun j => va_rf ((f j).map (qad g)))) := hI.2.2 a _ (qw_at hc)
  exact W.aald (v := va_rf ((f i.toNatClampNeg).map (qad g))) (ty := .array .int) hF.1 hF.2.1 hcell ((hF.2.2.2.2.2.2.2.1.1.2 4 _ rfl).1 N (fun j => va_rf ((f j).map (qad g)))) rfl (fun q => by cases q) (by rw [arrV_size]; exact hi) (by rw [arrV_read _ _ hlt]) rfl rfl hd hk
end QN

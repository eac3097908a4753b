/-! rows that read and write cells -/
/-- what the tables say of a class: its fields, their sorts, its words -/
def okC (ci : Nat) (C : String) (T : u_T) (N : Nat) (ty : Nat → FieldType) : Prop := vwCl[ci]? = some (C, T, N) ∧ (∀ w ∈ u_ws C T N, w ∈ qtb) ∧ (∀ k, k < N → parseFieldDescriptor (T k).2.2.1 = some (ty k)) ∧ (∀ a, a < N → ∀ b, b < N → a ≠ b → (T a).2.1 ≠ (T b).2.1)
/-- a field by its place in a class's pool -/
def okF (own : String) (idx ci k : Nat) (ty : FieldType) (fin : Bool) : Prop := ∃ (C : String) (T : u_T) (N : Nat) (tf : Nat → FieldType), okC ci C T N tf ∧ k < N ∧ Cond.fieldLink own idx C (T k).2.1 (T k).2.2.1 ∈ qtb ∧ (T k).1 = C ∧ tf k = ty ∧ (T k).2.2.2 = fin
theorem W_sz {p : Program} {l : Launch} {e : Env} {R : Room} {s : State} {m : MethodId} {args : Array Value} {below : List Frame} {meth : Method} {c : Code} {H : Heap} {locs : List Loc} {cells slots : Nat} {Q : State → Prop} {g : JFrame}
    (k : H.size ≤ s.heap.size + cells → W p l e R s m args below meth c H locs cells slots Q g) : W p l e R s m args below meth c H locs cells slots Q g := fun T hT X => k (by rw [← hT]; exact X.heapSize) T hT X
theorem qI_of {g : qG} {h : qH} {H : Heap} {sz n ce : Nat} {k : Nat} {c : qC} (hs : sz = g.1 + n) (hn : h.length = n + ce) (hm : h.length ≤ 1000000) (hk : h[k]? = some c) (hz : H.size ≤ sz + ce) (hP : va_P g.2.1 vwCl (qw g h) H) : qI g h H := by
  refine ⟨?_, hm, hP⟩
  have hl : k < h.length := (List.getElem?_eq_some_iff.mp hk).1
  have h1 : h[h.length - 1]? = some (h[h.length - 1]'(by omega)) := List.getElem?_eq_getElem (by omega)
  have h2 := (hP _ _ (qw_at (g := g) h1)).lt
  have h3 : g.1 + (h.length - 1) < H.size := h2
  omega
section QC
variable {l : Launch} {g : qG} {M : qMt} {d n mc ms ce sl : Nat} {Z : List Frame → Array Value → State → State → Prop} {pc : Nat} {lv : List (Nat × Value)} {st : List Value} {h : qH}
theorem q_get {idx a ci k : Nat} {ty : FieldType} {fin : Bool} {fs : List Value} {v : Value} (hd : decode M.2.1 pc = .ok (.getfield idx, 3)) (hw : okF M.1.cls idx ci k ty fin) (hc : h[a]? = some (.inr (.inr (ci, fs)))) (hv : fs[k]? = some v) (kk : qV l g M d n mc ms ce sl Z (pc + 3) lv (v :: st) h) : qV l g M d n mc ms ce sl Z pc lv (.ref a :: st) h := by
  intro p e s m args below meth c H locs ls hF hs hn hl hI hS
  obtain ⟨C, T, N, tf, hC, hk, hlk, hcl, -⟩ := hw
  show W _ _ _ _ _ _ _ _ _ _ _ _ _ _ _ (F0 m pc ls (.ref (qad g a) :: st.map (qv g)))
  rw [qI_lt hI hc]
  exact va_get (D := g.2.1) (cl := vwCl) (ref := C) (C := C) (T := T) (N := N) (fs := fs.map (qv g)) hF.1 hF.2.1 hF.2.2.2.2.2.2.2.2 hC.2.1 hF.2.2.2.2.1 hF.2.2.2.2.2.2.2.1.1 hI.2.2 a (qw_at hc) hC.1 k hk (hF.2.2.2.2.2.2.2.2 _ hlk) (fun x hx => by rw [hcl] at hx; exact hx) (by rw [List.getElem?_map, hv]; rfl) hd
    (kk p e s m args below meth c H locs ls hF hs hn hl hI hS)
theorem q_put {idx a ci k : Nat} {ty : FieldType} {fs : List Value} {v : Value} (hd : decode M.2.1 pc = .ok (.putfield idx, 3)) (hw : okF M.1.cls idx ci k ty false) (hc : h[a]? = some (.inr (.inr (ci, fs)))) (hl0 : k < fs.length) (hv : narrow ty v = v) (hf : fits ty v = true) (kk : qV l g M d n mc ms ce sl Z (pc + 3) lv st (h.set a (.inr (.inr (ci, fs.set k v))))) : qV l g M d n mc ms ce sl Z pc lv (v :: .ref a :: st) h := by
  intro p e s m args below meth c H locs ls hF hs hn hl hI hS
  obtain ⟨C, T, N, tf, hC, hk, hlk, hcl, hty, hfin⟩ := hw
  subst hty
  have ha : a < h.length := (List.getElem?_eq_some_iff.mp hc).1
  show W _ _ _ _ _ _ _ _ _ _ _ _ _ _ _ (F0 m pc ls (qv g v :: .ref (qad g a) :: st.map (qv g)))
  rw [qI_lt hI hc]
  refine va_put (D := g.2.1) (cl := vwCl) (ref := C) (C := C) (T := T) (N := N) (fs := fs.map (qv g)) (ty := tf k) hF.1 hF.2.1 hF.2.2.2.2.2.2.2.2 hC.2.1 tf hC.2.2.1 hC.2.2.2 hF.2.2.2.2.1 hF.2.2.2.2.2.2.2.1.1 hI.2.2 (qw_D g h) hS a (qw_at hc) hC.1 k hk (hF.2.2.2.2.2.2.2.2 _ hlk) (fun x hx => by rw [hcl] at hx; exact hx) hfin (hC.2.2.1 k hk) (qv_nar g hv) (qv_fit g hf) (by rw [List.length_map]; exact hl0) hd (fun H1 locs1 hP1 _ hS1 => ?_)
  refine W_sz fun hz => ?_
  have e1 : (qw g h).set a (g.1 + a, .inr (ci, (fs.map (qv g)).set k (qv g v))) = qw g (h.set a (.inr (.inr (ci, fs.set k v)))) := by
    rw [← qw_set]; show _ = (qw g h).set a (g.1 + a, .inr (ci, (fs.set k v).map (qv g))); rw [List.map_set]
  rw [e1] at hP1
  exact kk p e s m args below meth c H1 locs1 ls hF hs (by rw [List.length_set]; exact hn) hl (qI_of (k := a) (c := .inr (.inr (ci, fs.set k v))) hs (by rw [List.length_set]; exact hn) (by rw [List.length_set]; exact hI.2.1) (by rw [List.getElem?_set_self ha]) hz hP1) hS1
theorem q_putF {idx a ci k : Nat} {ty : FieldType} {fs : List Value} {v : Value} (hd : decode M.2.1 pc = .ok (.putfield idx, 3)) (hw : okF M.1.cls idx ci k ty true) (hin : M.1.name = "<init>") (hown : vwCl[ci]?.map (fun q => q.1) = some M.1.cls) (hc : h[a]? = some (.inr (.inr (ci, fs)))) (hl0 : k < fs.length) (hv : narrow ty v = v) (hf : fits ty v = true) (kk : qV l g M d n mc ms ce sl Z (pc + 3) lv st (h.set a (.inr (.inr (ci, fs.set k v))))) : qV l g M d n mc ms ce sl Z pc lv (v :: .ref a :: st) h := by
  intro p e s m args below meth c H locs ls hF hs hn hl hI hS
  obtain ⟨C, T, N, tf, hC, hk, hlk, hcl, hty, hfin⟩ := hw
  subst hty
  have hCM : C = M.1.cls := by rw [hC.1] at hown; exact Option.some.inj hown
  have ha : a < h.length := (List.getElem?_eq_some_iff.mp hc).1
  show W _ _ _ _ _ _ _ _ _ _ _ _ _ _ _ (F0 m pc ls (qv g v :: .ref (qad g a) :: st.map (qv g)))
  rw [qI_lt hI hc]
  refine va_putF (D := g.2.1) (cl := vwCl) (ref := C) (C := C) (T := T) (N := N) (fs := fs.map (qv g)) (ty := tf k) hF.1 hF.2.1 hF.2.2.2.2.2.2.2.2 hC.2.1 tf hC.2.2.1 hC.2.2.2 hF.2.2.2.2.1 hF.2.2.2.2.2.2.2.1.1 hI.2.2 (qw_D g h) hS a (qw_at hc) hC.1 k hk (hF.2.2.2.2.2.2.2.2 _ hlk) (fun x hx => by rw [hcl] at hx; exact hx) hfin (hF.2.2.2.2.2.2.1 hin) (hcl.trans hCM) (hC.2.2.1 k hk) (qv_nar g hv) (qv_fit g hf) (by rw [List.length_map]; exact hl0) hd (fun H1 locs1 hP1 _ hS1 => ?_)
  refine W_sz fun hz => ?_
  have e1 : (qw g h).set a (g.1 + a, .inr (ci, (fs.map (qv g)).set k (qv g v))) = qw g (h.set a (.inr (.inr (ci, fs.set k v)))) := by
    rw [← qw_set]; show _ = (qw g h).set a (g.1 + a, .inr (ci, (fs.set k v).map (qv g))); rw [List.map_set]
  rw [e1] at hP1
  exact kk p e s m args below meth c H1 locs1 ls hF hs (by rw [List.length_set]; exact hn) hl (qI_of (k := a) (c := .inr (.inr (ci, fs.set k v))) hs (by rw [List.length_set]; exact hn) (by rw [List.length_set]; exact hI.2.1) (by rw [List.getElem?_set_self ha]) hz hP1) hS1
theorem q_iaload {a N : Nat} {f : Nat → Int32} {i : Int32} (hd : decode M.2.1 pc = .ok (.iaload, 1)) (hc : h[a]? = some (.inl (0, N, f))) (hi : vp_in i N) (kk : qV l g M d n mc ms ce sl Z (pc + 1) lv (.int (f i.toNatClampNeg) :: st) h) : qV l g M d n mc ms ce sl Z pc lv (.int i :: .ref a :: st) h := by
  intro p e s m args below meth c H locs ls hF hs hn hl hI hS
  show W _ _ _ _ _ _ _ _ _ _ _ _ _ _ _ (F0 m pc ls (.int i :: .ref (qad g a) :: st.map (qv g)))
  rw [qI_lt hI hc]
  exact va_iald (D := g.2.1) (cl := vwCl) (cA := g.2.2.1 0) (n := N) (f := f) hF.1 hF.2.1 hF.2.2.2.2.2.2.2.1.1 hI.2.2 a 0 (qw_at hc) rfl hi hd (kk p e s m args below meth c H locs ls hF hs hn hl hI hS)
theorem q_baload {a N : Nat} {f : Nat → Int32} {i : Int32} (hd : decode M.2.1 pc = .ok (.baload, 1)) (hc : h[a]? = some (.inl (1, N, f))) (hi : vp_in i N) (kk : qV l g M d n mc ms ce sl Z (pc + 1) lv (.int (f i.toNatClampNeg) :: st) h) : qV l g M d n mc ms ce sl Z pc lv (.int i :: .ref a :: st) h := by
  intro p e s m args below meth c H locs ls hF hs hn hl hI hS
  show W _ _ _ _ _ _ _ _ _ _ _ _ _ _ _ (F0 m pc ls (.int i :: .ref (qad g a) :: st.map (qv g)))
  rw [qI_lt hI hc]
  exact va_zald (D := g.2.1) (cl := vwCl) (cA := g.2.2.1 1) (n := N) (f := f) hF.1 hF.2.1 hF.2.2.2.2.2.2.2.1.1 hI.2.2 a 1 (qw_at hc) rfl hi hd (kk p e s m args below meth c H locs ls hF hs hn hl hI hS)
theorem q_iastore {a N : Nat} {f : Nat → Int32} {i x : Int32} (hd : decode M.2.1 pc = .ok (.iastore, 1)) (hc : h[a]? = some (.inl (0, N, f))) (hi : vp_in i N) (kk : qV l g M d n mc ms ce sl Z (pc + 1) lv st (h.set a (.inl (0, N, upd f i.toNatClampNeg x)))) : qV l g M d n mc ms ce sl Z pc lv (.int x :: .int i :: .ref a :: st) h := by
  intro p e s m args below meth c H locs ls hF hs hn hl hI hS
  have ha : a < h.length := (List.getElem?_eq_some_iff.mp hc).1
  show W _ _ _ _ _ _ _ _ _ _ _ _ _ _ _ (F0 m pc ls (.int x :: .int i :: .ref (qad g a) :: st.map (qv g)))
  rw [qI_lt hI hc]
  refine va_iast (D := g.2.1) (cl := vwCl) (cA := g.2.2.1 0) (n := N) (f := f) hF.1 hF.2.1 hF.2.2.2.2.2.2.2.1.1 hI.2.2 (qw_D g h) hS a 0 (qw_at hc) rfl hi hd (fun H1 locs1 hP1 _ hS1 => ?_)
  refine W_sz fun hz => ?_
  have e1 := qw_set g h a (.inl (0, N, upd f i.toNatClampNeg x))
  have hP1 : va_P g.2.1 vwCl (qw g (h.set a (.inl (0, N, upd f i.toNatClampNeg x)))) H1 := by rw [← e1]; exact hP1
  exact kk p e s m args below meth c H1 locs1 ls hF hs (by rw [List.length_set]; exact hn) hl (qI_of (k := a) (c := .inl (0, N, upd f i.toNatClampNeg x)) hs (by rw [List.length_set]; exact hn) (by rw [List.length_set]; exact hI.2.1) (by rw [List.getElem?_set_self ha]) hz hP1) hS1
theorem q_bastore {a N : Nat} {f : Nat → Int32} {i x : Int32} (hd : decode M.2.1 pc = .ok (.bastore, 1)) (hc : h[a]? = some (.inl (1, N, f))) (hi : vp_in i N) (kk : qV l g M d n mc ms ce sl Z (pc + 1) lv st (h.set a (.inl (1, N, upd f i.toNatClampNeg (vp_nar .boolean x))))) : qV l g M d n mc ms ce sl Z pc lv (.int x :: .int i :: .ref a :: st) h := by
  intro p e s m args below meth c H locs ls hF hs hn hl hI hS
  have ha : a < h.length := (List.getElem?_eq_some_iff.mp hc).1
  show W _ _ _ _ _ _ _ _ _ _ _ _ _ _ _ (F0 m pc ls (.int x :: .int i :: .ref (qad g a) :: st.map (qv g)))
  rw [qI_lt hI hc]
  refine va_zast (D := g.2.1) (cl := vwCl) (cA := g.2.2.1 1) (n := N) (f := f) hF.1 hF.2.1 hF.2.2.2.2.2.2.2.1.1 hI.2.2 (qw_D g h) hS a 1 (qw_at hc) rfl hi hd (fun H1 locs1 hP1 _ hS1 => ?_)
  refine W_sz fun hz => ?_
  have e1 := qw_set g h a (.inl (1, N, upd f i.toNatClampNeg (vp_nar .boolean x)))
  have hP1 : va_P g.2.1 vwCl (qw g (h.set a (.inl (1, N, upd f i.toNatClampNeg (vp_nar .boolean x))))) H1 := by rw [← e1]; exact hP1
  exact kk p e s m args below meth c H1 locs1 ls hF hs (by rw [List.length_set]; exact hn) hl (qI_of (k := a) (c := .inl (1, N, upd f i.toNatClampNeg (vp_nar .boolean x))) hs (by rw [List.length_set]; exact hn) (by rw [List.length_set]; exact hI.2.1) (by rw [List.getElem?_set_self ha]) hz hP1) hS1
theorem q_aaload {a t N : Nat} {f : Nat → Option Nat} {i : Int32} (ht : t < 2) (hd : decode M.2.1 pc = .ok (.aaload, 1)) (hc : h[a]? = some (.inr (.inl (t, N, f)))) (hi : vp_in i N) (kk : qV l g M d n mc ms ce sl Z (pc + 1) lv (va_rf (f i.toNatClampNeg) :: st) h) : qV l g M d n mc ms ce sl Z pc lv (.int i :: .ref a :: st) h := by
  intro p e s m args below meth c H locs ls hF hs hn hl hI hS
  show W _ _ _ _ _ _ _ _ _ _ _ _ _ _ _ (F0 m pc ls (.int i :: .ref (qad g a) :: st.map (qv g)))
  rw [qI_lt hI hc]
  have e1 : va_rf ((f i.toNatClampNeg).map (qad g)) = qv g (va_rf (f i.toNatClampNeg)) := by cases f i.toNatClampNeg <;> rfl
  have hk := kk p e s m args below meth c H locs ls hF hs hn hl hI hS
  have hk : W p l e (qRm d mc ms) s m args below meth c H locs ce sl (Z below args s) (F0 m (pc + 1) ls (va_rf ((f i.toNatClampNeg).map (qad g)) :: st.map (qv g))) := by rw [e1]; exact hk
  rcases (show t = 0 ∨ t = 1 by omega) with rfl | rfl
  · exact va_aldq (D := g.2.1) (cl := vwCl) (cA := g.2.2.1 2) (C := RX5) (n := N) (f := fun i => (f i).map (qad g)) hF.1 hF.2.1 hF.2.2.2.2.2.2.2.1.1 hI.2.2 a 2 (qw_at hc) rfl hi hd hk
  · exact va_aldq (D := g.2.1) (cl := vwCl) (cA := g.2.2.1 3) (C := RX2) (n := N) (f := fun i => (f i).map (qad g)) hF.1 hF.2.1 hF.2.2.2.2.2.2.2.1.1 hI.2.2 a 3 (qw_at hc) rfl hi hd hk
theorem q_alen {a t N : Nat} {f : Nat → Int32} (ht : t < 2) (hd : decode M.2.1 pc = .ok (.arraylength, 1)) (hc : h[a]? = some (.inl (t, N, f))) (kk : qV l g M d n mc ms ce sl Z (pc + 1) lv (.int (Int32.ofNat N) :: st) h) : qV l g M d n mc ms ce sl Z pc lv (.ref a :: st) h := by
  intro p e s m args below meth c H locs ls hF hs hn hl hI hS
  show W _ _ _ _ _ _ _ _ _ _ _ _ _ _ _ (F0 m pc ls (.ref (qad g a) :: st.map (qv g)))
  rw [qI_lt hI hc]
  have hk := kk p e s m args below meth c H locs ls hF hs hn hl hI hS
  rcases (show t = 0 ∨ t = 1 by omega) with rfl | rfl
  · exact va_alen (D := g.2.1) (cl := vwCl) (cA := g.2.2.1 0) (x := (N, .inl f)) hF.1 hF.2.1 hF.2.2.2.2.2.2.2.1.1 hI.2.2 a 0 (qw_at hc) (ty := .int) rfl rfl hd hk
  · exact va_alen (D := g.2.1) (cl := vwCl) (cA := g.2.2.1 1) (x := (N, .inl f)) hF.1 hF.2.1 hF.2.2.2.2.2.2.2.1.1 hI.2.2 a 1 (qw_at hc) (ty := .boolean) rfl rfl hd hk
theorem q_alenQ {a t N : Nat} {f : Nat → Option Nat} (ht : t < 3) (hd : decode M.2.1 pc = .ok (.arraylength, 1)) (hc : h[a]? = some (.inr (.inl (t, N, f)))) (kk : qV l g M d n mc ms ce sl Z (pc + 1) lv (.int (Int32.ofNat N) :: st) h) : qV l g M d n mc ms ce sl Z pc lv (.ref a :: st) h := by
  intro p e s m args below meth c H locs ls hF hs hn hl hI hS
  show W _ _ _ _ _ _ _ _ _ _ _ _ _ _ _ (F0 m pc ls (.ref (qad g a) :: st.map (qv g)))
  rw [qI_lt hI hc]
  have hk := kk p e s m args below meth c H locs ls hF hs hn hl hI hS
  rcases (show t = 0 ∨ t = 1 ∨ t = 2 by omega) with rfl | rfl | rfl
  · exact va_alen (D := g.2.1) (cl := vwCl) (cA := g.2.2.1 2) (x := (N, .inr (.inr (.inr (.inr (fun i => (f i).map (qad g))))))) hF.1 hF.2.1 hF.2.2.2.2.2.2.2.1.1 hI.2.2 a 2 (qw_at hc) (ty := .object RX5) rfl rfl hd hk
  · exact va_alen (D := g.2.1) (cl := vwCl) (cA := g.2.2.1 3) (x := (N, .inr (.inr (.inr (.inr (fun i => (f i).map (qad g))))))) hF.1 hF.2.1 hF.2.2.2.2.2.2.2.1.1 hI.2.2 a 3 (qw_at hc) (ty := .object RX2) rfl rfl hd hk
  · exact va_alen (D := g.2.1) (cl := vwCl) (cA := g.2.2.1 4) (x := (N, .inr (.inr (.inr (.inr (fun i => (f i).map (qad g))))))) hF.1 hF.2.1 hF.2.2.2.2.2.2.2.1.1 hI.2.2 a 4 (qw_at hc) (ty := .array .int) rfl rfl hd hk
end QC

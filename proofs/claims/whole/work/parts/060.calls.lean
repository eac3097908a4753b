/-! rows of calls -/
theorem q_go {p : Program} {l : Launch} {e : Env} {R : Room} {s : State} {m : MethodId} {args : Array Value} {below : List Frame} {meth : Method} {c : Code} {H : Heap} {locs : List Loc} {ce sl mc' ms' pc n' : Nat} {ls : Array Slot} {st0 rest : List Value} {a : Array Value} {g : qG} {Z' : Option Value → qH → Prop} {Q : State → Prop}
    (hr : va_Run p l e R s m args below meth c H locs ce sl mc' ms' (F0 m pc ls st0) rest (qQ g n' Z' a) (qA g)) (hS : va_S (qA g) s.heap H locs)
    (kk : ∀ (v : Option Value) (h' : qH) (H1 : Heap) (locs1 : List Loc), Z' v h' → h'.length = n' → qI g h' H1 → va_S (qA g) s.heap H1 locs1 → W p l e R s m args below meth c H1 locs1 (ce + mc') (sl + ms') Q (F0 m (pc + 3) ls ((v.map (qv g)).toList ++ rest))) : W p l e R s m args below meth c H locs ce sl Q (F0 m pc ls st0) := by
  intro T hT X
  obtain ⟨v0, st₀, t, T', L, h0, X', hL, e1, e2, ⟨v, h', hv, hZ, hn', hI', hz, hk⟩, st⟩ := hr T hT X
  cases hv
  rw [h0] at hz hk
  obtain ⟨t2, a1, b1⟩ := kk v h' T'.heap (locs ++ L) hZ hn' (by rw [e1]; exact hI')
    ⟨Nat.le_trans hS.1 (by rw [e1]; exact hz), fun q h1 h2 => by rw [e1, hk q (Nat.lt_of_lt_of_le h1 hS.1) h2]; exact hS.2.1 q h1 h2, fun q hq => by
      rcases List.mem_append.mp hq with h | h
      · exact hS.2.2 q h
      · exact hL q h⟩ T' rfl X'
  exact ⟨t2, st t2 a1, b1⟩
theorem q_pre {g : qG} {s : State} {H : Heap} {locs : List Loc} {h : qH} {as : List Value} {n : Nat} (hK : qK g s) (hs : s.heap.size = g.1 + n) (hI : qI g h H) (hS : va_S (qA g) s.heap H locs) (U : State) (hU : U.heap = H) (hW : s.WarmedH U.vm) : qPc g as h (as.map (qv g)).toArray U :=
  ⟨rfl, by rw [hU]; exact hI, va_K.moved hW.alike hK.1, qT_move hW hK.2.1, qX_move hW (by rw [hU]; exact hS.1) (fun a h1 h2 => by rw [hU]; exact hS.2.1 a h1 h2) hK.2.2⟩
theorem q_ws {g : qG} {s : State} {M : qMt} (hK : qK g s) (hc : Cond.code M.1 M.2.1 M.2.2.1 M.2.2.2 ∈ qtb) : ∀ w ∈ [Cond.code M.1 M.2.1 M.2.2.1 M.2.2.2], ∀ (a' : Array Value) (U : State), s.WarmedH U.vm → w.before a' U = true := by
  intro w hw a' U hW
  rcases List.mem_singleton.mp hw with rfl
  exact qT_any (qT_move hW hK.2.1) a' _ hc
/-- what any call asks of the callee: its code, na parameters -/
def okB (M : qMt) (na : Nat) : Prop := Cond.code M.1 M.2.1 M.2.2.1 M.2.2.2 ∈ qtb ∧ Cond.initialized M.1.cls ∈ qtb ∧ M.1.cls ≠ "java/lang/invoke/MethodHandle" ∧ M.1.cls ≠ "java/lang/invoke/VarHandle" ∧ (parseMethodDescriptor M.1.desc).map (fun d => d.parameters.length) = some na ∧ M.2.2.1 ≤ 20
theorem okB.len {M : qMt} {na : Nat} (h : okB M na) : ∀ sig, parseMethodDescriptor M.1.desc = some sig → na = sig.parameters.length := by
  intro sig hs
  have h2 := h.2.2.2.2.1
  rw [hs] at h2
  exact (Option.some.inj h2).symm
def okS (own : String) (idx : Nat) (M : qMt) (na : Nat) : Prop := okB M na ∧ Cond.static M.1 ∈ qtb ∧ Cond.methodLink own idx M.1 ∈ qtb
def okSN (own : String) (idx : Nat) (M : qMt) (na : Nat) (host : String) : Prop := okB M na ∧ Cond.static M.1 ∈ qtb ∧ Cond.methodLinkNest own idx M.1 host ∈ qtb
def okV (own : String) (idx ci : Nat) (M : qMt) (na : Nat) : Prop := okB M na ∧ Cond.instanceMethod M.1 ∈ qtb ∧ (∃ q : vw_C, vwCl[ci]? = some q ∧ Cond.selects q.1 M.1 M.1 ∈ qtb) ∧ Cond.methodLink own idx M.1 ∈ qtb
def okVN (own : String) (idx ci : Nat) (M : qMt) (na : Nat) (host : String) : Prop := okB M na ∧ Cond.instanceMethod M.1 ∈ qtb ∧ (∃ q : vw_C, vwCl[ci]? = some q ∧ Cond.selects q.1 M.1 M.1 ∈ qtb) ∧ Cond.methodLinkNest own idx M.1 host ∈ qtb
/-- an overridden method: the reference names x, found at its owner; the receiver's class selects M -/
def okO (own : String) (idx ci : Nat) (x : MethodName) (owner : String) (M : qMt) (na : Nat) : Prop := okB M na ∧ Cond.instanceMethod M.1 ∈ qtb ∧ (∃ q : vw_C, vwCl[ci]? = some q ∧ Cond.selects q.1 x M.1 ∈ qtb) ∧ Cond.methodLink own idx x ∈ qtb ∧ Cond.sameMethod x.cls owner x.name x.desc ∈ qtb ∧ Cond.declares ⟨owner, x.name, x.desc⟩ ∈ qtb ∧ owner ≠ "java/lang/invoke/MethodHandle" ∧ owner ≠ "java/lang/invoke/VarHandle" ∧ x.desc = M.1.desc
def okI (own : String) (idx : Nat) (M : qMt) (na : Nat) : Prop := okB M na ∧ M.1.name = "<init>" ∧ M.2.2.2 = none ∧ Cond.instanceMethod M.1 ∈ qtb ∧ Cond.methodLink own idx M.1 ∈ qtb
def okIN (own : String) (idx : Nat) (M : qMt) (na : Nat) (host : String) : Prop := okB M na ∧ M.1.name = "<init>" ∧ M.2.2.2 = none ∧ Cond.instanceMethod M.1 ∈ qtb ∧ Cond.methodLinkNest own idx M.1 host ∈ qtb
def okSU (own : String) (idx : Nat) (M : qMt) (na : Nat) : Prop := okB M na ∧ M.1.name ≠ "<init>" ∧ Cond.instanceMethod M.1 ∈ qtb ∧ Cond.methodLink own idx M.1 ∈ qtb ∧ Cond.sameMethod M.1.cls M.1.cls M.1.name M.1.desc ∈ qtb ∧ Cond.superclass own M.1.cls ∈ qtb
section QL
variable {l : Launch} {g : qG} {M M2 : qMt} {d n mc ms ce sl mc' ms' na : Nat} {Z : List Frame → Array Value → State → State → Prop} {Z' : Option Value → qH → Prop} {pc idx : Nat} {lv : List (Nat × Value)} {rest as : List Value} {h : qH}
theorem q_room (hm : M2.2.2.1 ≤ 20) (mc' ms' : Nat) : (qRm d mc' ms').frames + 1 ≤ (qRm (d + 1) mc ms).frames ∧ 8 + (M2.2.2.1 + 11) + (qRm d mc' ms').locals ≤ (qRm (d + 1) mc ms).locals := by
  unfold qRm
  dsimp only
  omega
theorem q_mapapp (g : qG) (as rest : List Value) : (as.reverse ++ rest).map (qv g) = (as.map (qv g)).reverse ++ rest.map (qv g) := by rw [List.map_append, List.map_reverse]
theorem q_behind (g : qG) (v : Option Value) (rest : List Value) : (v.toList ++ rest).map (qv g) = (v.map (qv g)).toList ++ rest.map (qv g) := by cases v <;> rfl
theorem q_static (hd : decode M.2.1 pc = .ok (.invokestatic idx, 3)) (hw : okS M.1.cls idx M2 as.length) (hE : qE l g M2 d mc' ms' as h Z') (hr : (rest.map fun v => v.category).sum ≤ 8) (hf : ce + mc' ≤ mc ∧ sl + ms' ≤ ms)
    (kk : ∀ (v : Option Value) (h' : qH), Z' v h' → h'.length = h.length + mc' → qV l g M (d + 1) n mc ms (ce + mc') (sl + ms') Z (pc + 3) lv (v.toList ++ rest) h') : qV l g M (d + 1) n mc ms ce sl Z pc lv (as.reverse ++ rest) h := by
  intro p e s m args below meth c H locs ls hF hs hn hl hI hS
  have hT := hF.2.2.2.2.2.2.2.2
  have hK := hF.2.2.2.2.2.2.2.1
  obtain ⟨hB, hst, hlk⟩ := hw
  have hR := q_room (d := d) (mc := mc) (ms := ms) hB.2.2.2.2.2 mc' ms'
  rw [q_mapapp]
  refine q_go (g := g) (Z' := Z') (rest := rest.map (qv g)) (va_runS (bytes := M2.2.1) (maxL := M2.2.2.1) (ret := M2.2.2.2) (As := as.map (qv g)) (n := as.length) (Ts := qtb) (own := M.1.cls) ⟨hF.1, hF.2.1, hF.2.2.2.1, hF.2.2.2.2.1, hT⟩ hE
    ⟨⟨rfl, rfl, hR.1, hR.2, q_ws hK hB.1, List.mem_cons_self, hT _ hB.1, hT _ hB.2.1, ⟨hB.2.2.1, hB.2.2.2.1⟩, hB.len, hT _ hlk⟩, hT _ hst⟩ ⟨qPc_blind g as h, q_pre hK hs hI hS⟩ rfl (by rw [List.length_map]) hl.1 rfl (lv_room (by rw [q_catsum]; exact hr)) hd hf) hS (fun v h' H1 locs1 hZ hn' hI' hS' => ?_)
  rw [← q_behind]
  exact kk v h' hZ hn' p e s m args below meth c H1 locs1 ls hF hs (by omega) hl hI' hS'
theorem q_staticN {host : String} (hd : decode M.2.1 pc = .ok (.invokestatic idx, 3)) (hw : okSN M.1.cls idx M2 as.length host) (hE : qE l g M2 d mc' ms' as h Z') (hr : (rest.map fun v => v.category).sum ≤ 8) (hf : ce + mc' ≤ mc ∧ sl + ms' ≤ ms)
    (kk : ∀ (v : Option Value) (h' : qH), Z' v h' → h'.length = h.length + mc' → qV l g M (d + 1) n mc ms (ce + mc') (sl + ms') Z (pc + 3) lv (v.toList ++ rest) h') : qV l g M (d + 1) n mc ms ce sl Z pc lv (as.reverse ++ rest) h := by
  intro p e s m args below meth c H locs ls hF hs hn hl hI hS
  have hT := hF.2.2.2.2.2.2.2.2
  have hK := hF.2.2.2.2.2.2.2.1
  obtain ⟨hB, hst, hlk⟩ := hw
  have hR := q_room (d := d) (mc := mc) (ms := ms) hB.2.2.2.2.2 mc' ms'
  rw [q_mapapp]
  refine q_go (g := g) (Z' := Z') (rest := rest.map (qv g)) (va_runSN (bytes := M2.2.1) (maxL := M2.2.2.1) (ret := M2.2.2.2) (host := host) (As := as.map (qv g)) (n := as.length) (Ts := qtb) (own := M.1.cls) ⟨hF.1, hF.2.1, hF.2.2.2.1, hF.2.2.2.2.1, hT⟩ hE
    ⟨⟨⟨rfl, rfl, hR.1, hR.2, q_ws hK hB.1, List.mem_cons_self⟩, hT _ hB.1, hT _ hB.2.1, ⟨hB.2.2.1, hB.2.2.2.1⟩, hB.len, hT _ hlk⟩, hT _ hst, trivial⟩ ⟨qPc_blind g as h, q_pre hK hs hI hS⟩ rfl (by rw [List.length_map]) hl.1 rfl (lv_room (by rw [q_catsum]; exact hr)) hd hf) hS (fun v h' H1 locs1 hZ hn' hI' hS' => ?_)
  rw [← q_behind]
  exact kk v h' hZ hn' p e s m args below meth c H1 locs1 ls hF hs (by omega) hl hI' hS'
theorem q_recv {g : qG} {s : State} {H : Heap} {a ci : Nat} {q : vw_C} {fs : List Value} (hK : qK g s) (hI : qI g h H) (hq : vwCl[ci]? = some q) (hc : h[a]? = some (.inr (.inr (ci, fs)))) : ∃ cell : Cell, H[qad g a]? = some cell ∧ cell.vm.isStatics = false ∧ s.vm.findClass q.1 = some cell.cls := by
  rw [qI_lt hI hc]
  exact va_recv (D := g.2.1) (cl := vwCl) (fs := fs.map (qv g)) hK.1 hI.2.2 hq (qw_at hc)
theorem q_virt {a ci : Nat} {fs : List Value} (hd : decode M.2.1 pc = .ok (.invokevirtual idx, 3)) (hw : okV M.1.cls idx ci M2 as.length) (hc : h[a]? = some (.inr (.inr (ci, fs)))) (hE : qE l g M2 d mc' ms' (.ref a :: as) h Z') (hr : (rest.map fun v => v.category).sum ≤ 8) (hf : ce + mc' ≤ mc ∧ sl + ms' ≤ ms)
    (kk : ∀ (v : Option Value) (h' : qH), Z' v h' → h'.length = h.length + mc' → qV l g M (d + 1) n mc ms (ce + mc') (sl + ms') Z (pc + 3) lv (v.toList ++ rest) h') : qV l g M (d + 1) n mc ms ce sl Z pc lv (as.reverse ++ .ref a :: rest) h := by
  intro p e s m args below meth c H locs ls hF hs hn hl hI hS
  have hT := hF.2.2.2.2.2.2.2.2
  have hK := hF.2.2.2.2.2.2.2.1
  obtain ⟨hB, hin, ⟨q, hq, hse⟩, hlk⟩ := hw
  have hR := q_room (d := d) (mc := mc) (ms := ms) hB.2.2.2.2.2 mc' ms'
  rw [q_mapapp]
  refine q_go (g := g) (Z' := Z') (rest := rest.map (qv g)) (va_runV (bytes := M2.2.1) (maxL := M2.2.2.1) (ret := M2.2.2.2) (C := q.1) (b := qad g a) (As := as.map (qv g)) (n := as.length) (Ts := qtb) (own := M.1.cls) ⟨hF.1, hF.2.1, hF.2.2.2.1, hF.2.2.2.2.1, hT⟩ hE
    ⟨⟨rfl, rfl, hR.1, hR.2, q_ws hK hB.1, List.mem_cons_self, hT _ hB.1, hT _ hB.2.1, ⟨hB.2.2.1, hB.2.2.2.1⟩, hB.len, hT _ hlk⟩, hT _ hin, hT _ hse⟩ ⟨qPc_blind g _ h, q_recv hK hI hq hc, q_pre (as := .ref a :: as) hK hs hI hS⟩ rfl (by rw [List.length_map]) hl.1 rfl (lv_room (by rw [q_catsum]; exact hr)) hd hf) hS (fun v h' H1 locs1 hZ hn' hI' hS' => ?_)
  rw [← q_behind]
  exact kk v h' hZ hn' p e s m args below meth c H1 locs1 ls hF hs (by omega) hl hI' hS'
theorem q_virtN {a ci : Nat} {fs : List Value} {host : String} (hd : decode M.2.1 pc = .ok (.invokevirtual idx, 3)) (hw : okVN M.1.cls idx ci M2 as.length host) (hc : h[a]? = some (.inr (.inr (ci, fs)))) (hE : qE l g M2 d mc' ms' (.ref a :: as) h Z') (hr : (rest.map fun v => v.category).sum ≤ 8) (hf : ce + mc' ≤ mc ∧ sl + ms' ≤ ms)
    (kk : ∀ (v : Option Value) (h' : qH), Z' v h' → h'.length = h.length + mc' → qV l g M (d + 1) n mc ms (ce + mc') (sl + ms') Z (pc + 3) lv (v.toList ++ rest) h') : qV l g M (d + 1) n mc ms ce sl Z pc lv (as.reverse ++ .ref a :: rest) h := by
  intro p e s m args below meth c H locs ls hF hs hn hl hI hS
  have hT := hF.2.2.2.2.2.2.2.2
  have hK := hF.2.2.2.2.2.2.2.1
  obtain ⟨hB, hin, ⟨q, hq, hse⟩, hlk⟩ := hw
  have hR := q_room (d := d) (mc := mc) (ms := ms) hB.2.2.2.2.2 mc' ms'
  rw [q_mapapp]
  refine q_go (g := g) (Z' := Z') (rest := rest.map (qv g)) (va_runVN (bytes := M2.2.1) (maxL := M2.2.2.1) (ret := M2.2.2.2) (host := host) (C := q.1) (b := qad g a) (As := as.map (qv g)) (n := as.length) (Ts := qtb) (own := M.1.cls) ⟨hF.1, hF.2.1, hF.2.2.2.1, hF.2.2.2.2.1, hT⟩ hE
    ⟨⟨⟨rfl, rfl, hR.1, hR.2, q_ws hK hB.1, List.mem_cons_self⟩, hT _ hB.1, hT _ hB.2.1, ⟨hB.2.2.1, hB.2.2.2.1⟩, hB.len, hT _ hlk⟩, hT _ hin, hT _ hse⟩ ⟨qPc_blind g _ h, q_recv hK hI hq hc, q_pre (as := .ref a :: as) hK hs hI hS⟩ rfl (by rw [List.length_map]) hl.1 rfl (lv_room (by rw [q_catsum]; exact hr)) hd hf) hS (fun v h' H1 locs1 hZ hn' hI' hS' => ?_)
  rw [← q_behind]
  exact kk v h' hZ hn' p e s m args below meth c H1 locs1 ls hF hs (by omega) hl hI' hS'
theorem q_virtO {a ci : Nat} {fs : List Value} {x : MethodName} {owner : String} (hd : decode M.2.1 pc = .ok (.invokevirtual idx, 3)) (hw : okO M.1.cls idx ci x owner M2 as.length) (hc : h[a]? = some (.inr (.inr (ci, fs)))) (hE : qE l g M2 d mc' ms' (.ref a :: as) h Z') (hr : (rest.map fun v => v.category).sum ≤ 8) (hf : ce + mc' ≤ mc ∧ sl + ms' ≤ ms)
    (kk : ∀ (v : Option Value) (h' : qH), Z' v h' → h'.length = h.length + mc' → qV l g M (d + 1) n mc ms (ce + mc') (sl + ms') Z (pc + 3) lv (v.toList ++ rest) h') : qV l g M (d + 1) n mc ms ce sl Z pc lv (as.reverse ++ .ref a :: rest) h := by
  intro p e s m args below meth c H locs ls hF hs hn hl hI hS
  have hT := hF.2.2.2.2.2.2.2.2
  have hK := hF.2.2.2.2.2.2.2.1
  obtain ⟨hB, hin, ⟨q, hq, hse⟩, hlk, hsm, hdc, ho1, ho2, hde⟩ := hw
  have hR := q_room (d := d) (mc := mc) (ms := ms) hB.2.2.2.2.2 mc' ms'
  rw [q_mapapp]
  refine q_go (g := g) (Z' := Z') (rest := rest.map (qv g)) (va_runU (x := x) (owner := owner) (bytes := M2.2.1) (maxL := M2.2.2.1) (ret := M2.2.2.2) (C := q.1) (b := qad g a) (As := as.map (qv g)) (n := as.length) (Ts := qtb) (own := M.1.cls) ⟨hF.1, hF.2.1, hF.2.2.2.1, hF.2.2.2.2.1, hT⟩ hE
    ⟨⟨rfl, rfl, hR.1, hR.2, q_ws hK hB.1, List.mem_cons_self⟩, hT _ hB.1, hT _ hB.2.1, ⟨ho1, ho2⟩, fun sig hsig => hB.len sig (by rw [← hde]; exact hsig), hT _ hlk, hT _ hsm, va_Decl.abs (hK.2.1.1 _ hdc), hT _ hse, hT _ hin⟩ ⟨qPc_blind g _ h, q_recv hK hI hq hc, q_pre (as := .ref a :: as) hK hs hI hS⟩ rfl (by rw [List.length_map]) hl.1 rfl (lv_room (by rw [q_catsum]; exact hr)) hd hf) hS (fun v h' H1 locs1 hZ hn' hI' hS' => ?_)
  rw [← q_behind]
  exact kk v h' hZ hn' p e s m args below meth c H1 locs1 ls hF hs (by omega) hl hI' hS'
theorem q_super {a ci : Nat} {fs : List Value} {q : vw_C} (hd : decode M.2.1 pc = .ok (.invokespecial idx, 3)) (hw : okSU M.1.cls idx M2 as.length) (hq : vwCl[ci]? = some q) (hc : h[a]? = some (.inr (.inr (ci, fs)))) (hE : qE l g M2 d mc' ms' (.ref a :: as) h Z') (hr : (rest.map fun v => v.category).sum ≤ 8) (hf : ce + mc' ≤ mc ∧ sl + ms' ≤ ms)
    (kk : ∀ (v : Option Value) (h' : qH), Z' v h' → h'.length = h.length + mc' → qV l g M (d + 1) n mc ms (ce + mc') (sl + ms') Z (pc + 3) lv (v.toList ++ rest) h') : qV l g M (d + 1) n mc ms ce sl Z pc lv (as.reverse ++ .ref a :: rest) h := by
  intro p e s m args below meth c H locs ls hF hs hn hl hI hS
  have hT := hF.2.2.2.2.2.2.2.2
  have hK := hF.2.2.2.2.2.2.2.1
  obtain ⟨hB, hno, hin, hlk, hsm, hsu⟩ := hw
  have hR := q_room (d := d) (mc := mc) (ms := ms) hB.2.2.2.2.2 mc' ms'
  rw [q_mapapp]
  refine q_go (g := g) (Z' := Z') (rest := rest.map (qv g)) (va_runSU (bytes := M2.2.1) (maxL := M2.2.2.1) (ret := M2.2.2.2) (C := q.1) (b := qad g a) (As := as.map (qv g)) (n := as.length) (Ts := qtb) (own := M.1.cls) (hK.1.1 ci q hq).2 ⟨hF.1, hF.2.1, hF.2.2.2.1, hF.2.2.2.2.1, hT⟩ hE
    ⟨⟨rfl, rfl, hR.1, hR.2, q_ws hK hB.1, List.mem_cons_self⟩, hT _ hlk, hT _ hsm, hT _ hsu, hT _ hin, hT _ hB.2.1, hT _ hB.1, hno, hB.len⟩ ⟨qPc_blind g _ h, q_recv hK hI hq hc, q_pre (as := .ref a :: as) hK hs hI hS⟩ rfl (by rw [List.length_map]) hl.1 rfl (lv_room (by rw [q_catsum]; exact hr)) hd hf) hS (fun v h' H1 locs1 hZ hn' hI' hS' => ?_)
  rw [← q_behind]
  exact kk v h' hZ hn' p e s m args below meth c H1 locs1 ls hF hs (by omega) hl hI' hS'
theorem q_init {a : Nat} (hd : decode M.2.1 pc = .ok (.invokespecial idx, 3)) (hw : okI M.1.cls idx M2 as.length) (hE : qE l g M2 d mc' ms' (.ref a :: as) h Z') (hr : (rest.map fun v => v.category).sum ≤ 8) (hf : ce + mc' ≤ mc ∧ sl + ms' ≤ ms)
    (kk : ∀ (v : Option Value) (h' : qH), Z' v h' → h'.length = h.length + mc' → qV l g M (d + 1) n mc ms (ce + mc') (sl + ms') Z (pc + 3) lv (v.toList ++ rest) h') : qV l g M (d + 1) n mc ms ce sl Z pc lv (as.reverse ++ .ref a :: rest) h := by
  intro p e s m args below meth c H locs ls hF hs hn hl hI hS
  have hT := hF.2.2.2.2.2.2.2.2
  have hK := hF.2.2.2.2.2.2.2.1
  obtain ⟨hB, hni, hrn, hin, hlk⟩ := hw
  have hR := q_room (d := d) (mc := mc) (ms := ms) hB.2.2.2.2.2 mc' ms'
  have hB1 := hB.1
  have hws := q_ws hK hB.1
  unfold qE at hE
  rw [hrn] at hB1 hws hE
  rw [q_mapapp]
  refine q_go (g := g) (Z' := Z') (rest := rest.map (qv g)) (va_runI (bytes := M2.2.1) (maxL := M2.2.2.1) (b := qad g a) (As := as.map (qv g)) (n := as.length) (Ts := qtb) (own := M.1.cls) ⟨hF.1, hF.2.1, hF.2.2.2.1, hF.2.2.2.2.1, hT⟩ hE
    ⟨⟨rfl, rfl, hR.1, hR.2, hws, List.mem_cons_self, hT _ hB1, hT _ hB.2.1, ⟨hB.2.2.1, hB.2.2.2.1⟩, hB.len, hT _ hlk⟩, hni, hT _ hin⟩ ⟨qPc_blind g _ h, q_pre (as := .ref a :: as) hK hs hI hS⟩ rfl (by rw [List.length_map]) hl.1 rfl (lv_room (by rw [q_catsum]; exact hr)) hd hf) hS (fun v h' H1 locs1 hZ hn' hI' hS' => ?_)
  rw [← q_behind]
  exact kk v h' hZ hn' p e s m args below meth c H1 locs1 ls hF hs (by omega) hl hI' hS'
theorem q_initN {a : Nat} {host : String} (hd : decode M.2.1 pc = .ok (.invokespecial idx, 3)) (hw : okIN M.1.cls idx M2 as.length host) (hE : qE l g M2 d mc' ms' (.ref a :: as) h Z') (hr : (rest.map fun v => v.category).sum ≤ 8) (hf : ce + mc' ≤ mc ∧ sl + ms' ≤ ms)
    (kk : ∀ (v : Option Value) (h' : qH), Z' v h' → h'.length = h.length + mc' → qV l g M (d + 1) n mc ms (ce + mc') (sl + ms') Z (pc + 3) lv (v.toList ++ rest) h') : qV l g M (d + 1) n mc ms ce sl Z pc lv (as.reverse ++ .ref a :: rest) h := by
  intro p e s m args below meth c H locs ls hF hs hn hl hI hS
  have hT := hF.2.2.2.2.2.2.2.2
  have hK := hF.2.2.2.2.2.2.2.1
  obtain ⟨hB, hni, hrn, hin, hlk⟩ := hw
  have hR := q_room (d := d) (mc := mc) (ms := ms) hB.2.2.2.2.2 mc' ms'
  have hB1 := hB.1
  have hws := q_ws hK hB.1
  unfold qE at hE
  rw [hrn] at hB1 hws hE
  rw [q_mapapp]
  refine q_go (g := g) (Z' := Z') (rest := rest.map (qv g)) (va_runIN (bytes := M2.2.1) (maxL := M2.2.2.1) (host := host) (b := qad g a) (As := as.map (qv g)) (n := as.length) (Ts := qtb) (own := M.1.cls) ⟨hF.1, hF.2.1, hF.2.2.2.1, hF.2.2.2.2.1, hT⟩ hE
    ⟨⟨⟨rfl, rfl, hR.1, hR.2, hws, List.mem_cons_self⟩, hT _ hB1, hT _ hB.2.1, ⟨hB.2.2.1, hB.2.2.2.1⟩, hB.len, hT _ hlk⟩, hni, hT _ hin⟩ ⟨qPc_blind g _ h, q_pre (as := .ref a :: as) hK hs hI hS⟩ rfl (by rw [List.length_map]) hl.1 rfl (lv_room (by rw [q_catsum]; exact hr)) hd hf) hS (fun v h' H1 locs1 hZ hn' hI' hS' => ?_)
  rw [← q_behind]
  exact kk v h' hZ hn' p e s m args below meth c H1 locs1 ls hF hs (by omega) hl hI' hS'
theorem q_objinit {a : Nat} (hd : decode M.2.1 pc = .ok (.invokespecial idx, 3)) (hw : Cond.methodLink M.1.cls idx objectInit ∈ qtb) (hw2 : Cond.instanceMethod objectInit ∈ qtb) (hw3 : Cond.code objectInit ⟨#[0xb1]⟩ 1 none ∈ qtb) (hr : (rest.map fun v => v.category).sum ≤ 8)
    (kk : qV l g M (d + 1) n mc ms ce sl Z (pc + 3) lv rest h) : qV l g M (d + 1) n mc ms ce sl Z pc lv (.ref a :: rest) h := by
  intro p e s m args below meth c H locs ls hF hs hn hl hI hS
  have hT := hF.2.2.2.2.2.2.2.2
  refine W.objInit hF.1 hF.2.1 hF.2.2.2.2.1 (hT _ hw) (hT _ hw2) (hT _ hw3) (g := F0 m pc ls (.ref (qad g a) :: rest.map (qv g))) rfl (by rw [hF.2.2.2.1]; exact hl.1) (a := qad g a) (rest := rest.map (qv g)) rfl hd (by unfold qRm; dsimp only; omega) ?_ (kk p e s m args below meth c H locs ls hF hs hn hl hI hS)
  show 2 * 0 + ((rest.map (qv g)).map fun v => v.category).sum + 12 ≤ 40 * (d + 1)
  rw [q_catsum]
  omega
theorem q_copy {a b N0 N1 : Nat} {f f1 : Nat → Int32} {sp dp len : Int32} (hd : decode M.2.1 pc = .ok (.invokestatic idx, 3)) (hw : Cond.methodLink M.1.cls idx arraycopyName ∈ qtb) (hw2 : Cond.native arraycopyName ∈ qtb) (hw3 : Cond.static arraycopyName ∈ qtb) (hw4 : Cond.initialized "java/lang/System" ∈ qtb) (ha : h[a]? = some (.inl (0, N0, f))) (hb : h[b]? = some (.inl (0, N1, f1)))
    (h1 : ¬ sp < 0) (h2 : ¬ dp < 0) (h3 : ¬ len < 0) (h4 : sp.toNatClampNeg + len.toNatClampNeg ≤ N0) (h5 : dp.toNatClampNeg + len.toNatClampNeg ≤ N1) (hr : (rest.map fun v => v.category).sum ≤ 8)
    (kk : qV l g M (d + 1) n mc ms ce sl Z (pc + 3) lv rest (h.set b (.inl (0, N1, va_cpy f f1 sp.toNatClampNeg dp.toNatClampNeg len.toNatClampNeg)))) : qV l g M (d + 1) n mc ms ce sl Z pc lv (.int len :: .int dp :: .ref b :: .int sp :: .ref a :: rest) h := by
  intro p e s m args below meth c H locs ls hF hs hn hl hI hS
  have hT := hF.2.2.2.2.2.2.2.2
  have hbl : b < h.length := (List.getElem?_eq_some_iff.mp hb).1
  show W _ _ _ _ _ _ _ _ _ _ _ _ _ _ _ (F0 m pc ls (.int len :: .int dp :: .ref (qad g b) :: .int sp :: .ref (qad g a) :: rest.map (qv g)))
  rw [qI_lt hI ha, qI_lt hI hb]
  refine va_copyi (D := g.2.1) (cl := vwCl) (c0 := g.2.2.1 0) (c1 := g.2.2.1 0) (n0 := N0) (n1 := N1) (f := f) (g := f1) (ty := .int) hF.1 hF.2.1 (by rw [hF.2.2.2.1]; exact hl.1.symm) hF.2.2.2.2.1 (hT _ hw) (hT _ hw2) (hT _ hw3) (hT _ hw4) hF.2.2.2.2.2.2.2.1.1 hI.2.2 (qw_D g h) hS a b 0 0 (qw_at ha) (qw_at hb) rfl rfl rfl h1 h2 h3 h4 h5 (fun _ _ => rfl) (by unfold qRm; dsimp only; omega) ?_ hd (fun H1 locs1 hP1 _ hS1 => ?_)
  · rw [q_catsum]
    show _ + (_ + 11) ≤ 40 * (d + 1)
    have e1 : nativeFrameWords "java/lang/System" "arraycopy" 5 ≤ 20 := by decide +kernel
    omega
  · refine W_sz fun hz => ?_
    have e1 := qw_set g h b (.inl (0, N1, va_cpy f f1 sp.toNatClampNeg dp.toNatClampNeg len.toNatClampNeg))
    have hP1 : va_P g.2.1 vwCl (qw g (h.set b (.inl (0, N1, va_cpy f f1 sp.toNatClampNeg dp.toNatClampNeg len.toNatClampNeg)))) H1 := by rw [← e1]; exact hP1
    exact kk p e s m args below meth c H1 locs1 ls hF hs (by rw [List.length_set]; exact hn) hl (qI_of (k := b) (c := .inl (0, N1, va_cpy f f1 sp.toNatClampNeg dp.toNatClampNeg len.toNatClampNeg)) hs (by rw [List.length_set]; exact hn) (by rw [List.length_set]; exact hI.2.1) (by rw [List.getElem?_set_self hbl]) hz hP1) hS1
theorem q_max {x y : Int32} (hd : decode M.2.1 pc = .ok (.invokestatic idx, 3)) (hw : Cond.methodLink M.1.cls idx Lib.Math.max.name ∈ qtb) (hw2 : Cond.static Lib.Math.max.name ∈ qtb) (hw3 : Cond.initialized "java/lang/Math" ∈ qtb) (hw4 : Cond.code Lib.Math.max.name Lib.Math.max.code 2 (some .int) ∈ qtb) (hr : (rest.map fun v => v.category).sum ≤ 8) (hf : ce ≤ mc ∧ sl ≤ ms)
    (kk : qV l g M (d + 1) n mc ms ce sl Z (pc + 3) lv (.int (if x < y then y else x) :: rest) h) : qV l g M (d + 1) n mc ms ce sl Z pc lv (.int y :: .int x :: rest) h := by
  intro p e s m args below meth c H locs ls hF hs hn hl hI hS
  have hT := hF.2.2.2.2.2.2.2.2
  refine va_mmax hF.1 hF.2.1 (by rw [hF.2.2.2.1]; exact hl.1.symm) hF.2.2.2.2.1 (hT _ hw) (hT _ hw2) (hT _ hw3) (hT _ hw4) (by unfold qRm; dsimp only; omega) ?_ hf.1 hf.2 hd (kk p e s m args below meth c H locs ls hF hs hn hl hI hS)
  show ((rest.map (qv g)).map fun v => v.category).sum + 13 ≤ 40 * (d + 1)
  rw [q_catsum]
  omega
theorem q_min {x y : Int32} (hd : decode M.2.1 pc = .ok (.invokestatic idx, 3)) (hw : Cond.methodLink M.1.cls idx Lib.Math.min.name ∈ qtb) (hw2 : Cond.static Lib.Math.min.name ∈ qtb) (hw3 : Cond.initialized "java/lang/Math" ∈ qtb) (hw4 : Cond.code Lib.Math.min.name Lib.Math.min.code 2 (some .int) ∈ qtb) (hr : (rest.map fun v => v.category).sum ≤ 8) (hf : ce ≤ mc ∧ sl ≤ ms)
    (kk : qV l g M (d + 1) n mc ms ce sl Z (pc + 3) lv (.int (if y < x then y else x) :: rest) h) : qV l g M (d + 1) n mc ms ce sl Z pc lv (.int y :: .int x :: rest) h := by
  intro p e s m args below meth c H locs ls hF hs hn hl hI hS
  have hT := hF.2.2.2.2.2.2.2.2
  refine va_mmin hF.1 hF.2.1 (by rw [hF.2.2.2.1]; exact hl.1.symm) hF.2.2.2.2.1 (hT _ hw) (hT _ hw2) (hT _ hw3) (hT _ hw4) (by unfold qRm; dsimp only; omega) ?_ hf.1 hf.2 hd (kk p e s m args below meth c H locs ls hF hs hn hl hI hS)
  show ((rest.map (qv g)).map fun v => v.category).sum + 13 ≤ 40 * (d + 1)
  rw [q_catsum]
  omega
end QL

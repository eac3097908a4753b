/-! a super call through a class that inherits the method -/
def okSI (own : String) (idx : Nat) (x : MethodName) (M : qMt) (na : Nat) : Prop := okB M na ∧ M.1.name ≠ "<init>" ∧ x.name = M.1.name ∧ x.desc = M.1.desc ∧ Cond.instanceMethod M.1 ∈ qtb ∧ Cond.methodLink own idx x ∈ qtb ∧ Cond.sameMethod x.cls M.1.cls x.name x.desc ∈ qtb ∧ Cond.superclass own x.cls ∈ qtb ∧ Cond.superclass x.cls M.1.cls ∈ qtb
theorem q_callSI {p : Program} {l : Launch} {e : Env} {R : Room} {s : State} {m : MethodId} {args : Array Value} {below : List Frame} {meth : Method} {c : Code} {T : State} {locs : List Loc} {cells slots : Nat} (X : Stand p l e R s m args below meth c T locs cells slots) (hexec : p.tables.exec = Jvm.exec) {own : String} {index : Nat} {x y : MethodName} {bytes : ByteArray} {maxL : Nat} {ret : Option FieldType}
    (hxn : x.name = y.name) (hxd : x.desc = y.desc) (hown : s.vm.findClass own = some m.cls) (hlink : (Cond.methodLink own index x).before args s = true) (hsame : (Cond.sameMethod x.cls y.cls x.name x.desc).before args s = true) (hsup : (Cond.superclass own x.cls).before args s = true) (hsup2 : (Cond.superclass x.cls y.cls).before args s = true)
    (hinst : (Cond.instanceMethod y).before args s = true) (hcode : (Cond.code y bytes maxL ret).before args s = true) (hno : y.name ≠ "<init>")
    {W : Nat} {Pre : Pt → Array Value → Prop} {Post : Pt → Array Value → Option Value → Pt → Prop} (hK : Back l R p e below s args y 3 W Pre Post)
    {b : Addr} {cellB : Cell} {kB : Class} (hcell : T.heap[b]? = some cellB) (hobj : cellB.vm.isStatics = false) (hkB : s.vm.classes[cellB.cls]? = some kB)
    {g : JFrame} (hg : g.method = m) (hsize : g.locals.size = c.maxLocals) {argsL rest : List Value} (hlen : ∀ sig, parseMethodDescriptor y.desc = some sig → argsL.length = sig.parameters.length)
    (hstack : g.stack = argsL.reverse ++ .ref b :: rest) (hW : 2 * g.monitorRoom + (rest.map fun v => v.category).sum ≤ W) (hdg : decode c.code g.pc = .ok (.invokespecial index, 3))
    (hpre : ∀ vm₁, s.WarmedH vm₁ → Pre ⟨T.setVm vm₁, locs, cells, slots⟩ (Value.ref b :: argsL).toArray) :
    ∃ (v : Option Value) (vm₁ : Vm) (B : Pt), s.WarmedH vm₁ ∧ Stand p l e R s m args below meth c B.U B.locs B.cells B.slots ∧ Post ⟨T.setVm vm₁, locs, cells, slots⟩ (Value.ref b :: argsL).toArray v B ∧
      ∀ target, Steps p.tables e below (B.U.setTop { g with pc := g.pc + 3, stack := v.toList ++ rest }) target → Steps p.tables e below (T.setTop g) target := by
  obtain ⟨mk, methM, hnamed, hmethM, hstM, habM⟩ := Cond.instanceMethod_spec hinst
  obtain ⟨methM', cM, hmethM', -, -, -, -, -, -, hsigM⟩ := Cond.code_spec hnamed hcode
  cases hmethM.symm.trans hmethM'
  obtain ⟨ps, dk, kp, hps, hdk, hkp, hsuper, -, -, hnid⟩ := Cond.superclass_spec hown hsup
  have hn : s.methodNamed? ⟨y.cls, x.name, x.desc⟩ = some mk := by rw [hxn, hxd]; exact hnamed
  obtain ⟨ps2, dk2, kp2, hps2, hdk2, hkp2, hsuper2, -, -, hnid2⟩ := Cond.superclass_spec hps hsup2
  have hpm : ps2 = mk.cls := Option.some.inj (hps2.symm.trans (findClass_of_methodNamed hnamed))
  subst hpm
  have hsub : s.vm.isSubclass ps mk.cls = true := by
    have h1 := (Array.getElem?_eq_some_iff.mp hdk2).1
    obtain ⟨k, hk⟩ : ∃ k, s.vm.classes.size = k + 1 := ⟨s.vm.classes.size - 1, by omega⟩
    unfold Vm.isSubclass
    rw [hk]
    simp [Vm.isSubclassAux, hdk2, hsuper2]
  obtain ⟨vm₁, X₁, hstep₁⟩ := X.invokespecialUp hexec hown hlink hsame hn hmethM hstM habM (by rw [hxn]; exact hno) hdk hnid hps hsuper hsub (a := b) (cell := cellB) hcell
    (fun z h => by rw [h] at hobj; cases hobj) hkB (g := g) hg (argsL := argsL) (rest := rest) (hlen _ hsigM) hstack hdg
  obtain ⟨v, B, X', hpost, hsteps⟩ := hK m meth c ⟨T.setVm vm₁, locs, cells, slots⟩ { g with stack := rest } (.invokespecial index) mk (Value.ref b :: argsL).toArray X₁ hg hsize hdg hW (X₁.named hnamed) (hpre vm₁ X₁.warmed)
  exact ⟨v, vm₁, B, X₁.warmed, X', hpost, fun target h => hstep₁ _ (by rw [doInvoke_state]; exact hsteps.trans h)⟩
theorem q_superI {l : Launch} {g : qG} {M M2 : qMt} {d n mc ms ce sl mc' ms' : Nat} {Z : List Frame → Array Value → State → State → Prop} {Z' : Option Value → qH → Prop} {pc idx : Nat} {lv : List (Nat × Value)} {rest as : List Value} {h : qH} {a ci : Nat} {fs : List Value} {q : vw_C} {x : MethodName} (hd : decode M.2.1 pc = .ok (.invokespecial idx, 3)) (hw : okSI M.1.cls idx x M2 as.length) (hq : vwCl[ci]? = some q) (hc : h[a]? = some (.inr (.inr (ci, fs)))) (hE : qE l g M2 d mc' ms' (.ref a :: as) h Z') (hr : (rest.map fun v => v.category).sum ≤ 8) (hf : ce + mc' ≤ mc ∧ sl + ms' ≤ ms)
    (kk : ∀ (v : Option Value) (h' : qH), Z' v h' → h'.length = h.length + mc' → qV l g M (d + 1) n mc ms (ce + mc') (sl + ms') Z (pc + 3) lv (v.toList ++ rest) h') : qV l g M (d + 1) n mc ms ce sl Z pc lv (as.reverse ++ .ref a :: rest) h := by
  intro p e s m args below meth c H locs ls hF hs hn hl hI hS
  have hT := hF.2.2.2.2.2.2.2.2
  have hK := hF.2.2.2.2.2.2.2.1
  obtain ⟨hB, hno, hxn, hxd, hin, hlk, hsm, hsu, hsu2⟩ := hw
  have hR := q_room (d := d) (mc := mc) (ms := ms) hB.2.2.2.2.2 mc' ms'
  rw [q_mapapp]
  refine q_go (g := g) (Z' := Z') (rest := rest.map (qv g)) (a := (Value.ref (qad g a) :: as.map (qv g)).toArray) (n' := h.length + mc') (mc' := mc') (ms' := ms') ?_ hS (fun v h' H1 locs1 hZ hn' hI' hS' => ?_)
  · have hini := hT _ hB.2.1
    have hKb : Back l (qRm (d + 1) mc ms) p e below s args M2.1 3 8 (PreOf (qRm (d + 1) mc ms) mc' ms' (qPc g (.ref a :: as) h)) (PostOf (qQ g (h.length + mc') Z') mc' ms' (qA g)) := back_of (bytes := M2.2.1) (maxL := M2.2.2.1) (ret := M2.2.2.2) hE (qPc_blind g _ h) rfl rfl hR.1 hR.2 (q_ws hK hB.1) List.mem_cons_self (fun a' U hW => word_at hW (Or.inl (by first | rfl | simp [Cond.onTables, Cond.keeps, Cond.steady])) hini)
    obtain ⟨hfc, kB, hkB, -⟩ := (hK.1.1 ci q hq).2
    obtain ⟨cellB, hcB, hoB, hclB⟩ := q_recv hK hI hq hc
    rw [Option.some.inj (hfc.symm.trans hclB)] at hkB
    intro T hTT X
    obtain ⟨v, vm₁, ⟨U', l2, c2, s2⟩, hW₁, X', ⟨g', mk, t, L, e1, e2, hqq, h1, hL, h2, h3⟩, st⟩ := q_callSI X hF.1 (bytes := M2.2.1) (maxL := M2.2.2.1) (ret := M2.2.2.2) hxn hxd hF.2.2.2.2.1 (hT _ hlk) (hT _ hsm) (hT _ hsu) (hT _ hsu2) (hT _ hin) (hT _ hB.1) hno hKb (by rw [hTT]; exact hcB) hoB hkB (g := F0 m pc ls ((as.map (qv g)).reverse ++ .ref (qad g a) :: rest.map (qv g))) rfl (hl.1.trans hF.2.2.2.1.symm) (argsL := as.map (qv g)) (rest := rest.map (qv g)) (fun sig hh => by rw [List.length_map]; exact hB.len sig hh) rfl (lv_room (by rw [q_catsum]; exact hr)) (by rw [hF.2.1]; exact hd)
      (fun vm₁ hW₁ => ⟨hf.1, hf.2, q_pre (as := .ref a :: as) hK hs hI hS (T.setVm vm₁) hTT hW₁⟩)
    dsimp only [Pt.U, Pt.locs, Pt.cells, Pt.slots] at X' e1 e2 h1 h2 h3 st
    subst h1; subst h2; subst h3
    exact ⟨v, (T.setVm vm₁).calling g' mk (Value.ref (qad g a) :: as.map (qv g)).toArray, t, U', L, hTT, X', hL, e1, e2, hqq, st⟩
  · rw [← q_behind]
    exact kk v h' hZ hn' p e s m args below meth c H1 locs1 ls hF hs (by omega) hl hI' hS'

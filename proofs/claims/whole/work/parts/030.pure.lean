/-! A PURE WORLD under the kit's rows: all cells that the law has made stand in one list, by their numbers; a value's reference is a number in that list
(from 1000000 on: a text constant); the judgement qV says what the kit's W says, of a frame and such a list; qE is a method's contract. -/
/-- a cell: a row of ints or booleans (sort 0, 1), a row of references (sort: 0 kinds of plots, 1 lives, 2 rows of ints), an object (its class's number, its fields) -/
abbrev qC : Type := (Nat × Nat × (Nat → Int32)) ⊕ (Nat × Nat × (Nat → Option Nat)) ⊕ (Nat × List Value)
abbrev qH : Type := List qC
/-- where the cells begin; the tables' numbers of classes and slots; of the array classes; the text constants' addresses (their bytes' from 100 on); what a static of the JDK's holds, of which nothing is known; the law's script (its address: 300), its length and ints -/
abbrev qG : Type := Nat × va_G × (Nat → ClassId) × (Nat → Nat) × Value × Nat × (Nat → Int32)
def qad (g : qG) (k : Nat) : Nat := if k < 1000000 then g.1 + k else g.2.2.2.1 (k - 1000000)
def qv (g : qG) (v : Value) : Value := match v with
  | .ref k => .ref (qad g k)
  | .int x => .int x
  | .long x => .long x
  | .float x => .float x
  | .double x => .double x
  | .null => .null
  | .retAddr x => .retAddr x
def qc (g : qG) (c : qC) : va_E := match c with
  | .inl a => .inl (g.2.2.1 a.1, a.2.1, .inl a.2.2)
  | .inr (.inl a) => .inl (g.2.2.1 (a.1 + 2), a.2.1, .inr (.inr (.inr (.inr (fun i => (a.2.2 i).map (qad g))))))
  | .inr (.inr o) => .inr (o.1, o.2.map (qv g))
def qw (g : qG) (h : qH) : va_W := h.mapIdx (fun k c => (g.1 + k, qc g c))
def qtys (g : qG) : List (ClassId × FieldType) := [(g.2.2.1 0, .int), (g.2.2.1 1, .boolean), (g.2.2.1 2, .object RX5), (g.2.2.1 3, .object RX2), (g.2.2.1 4, .array .int)]
def qI (g : qG) (h : qH) (H : Heap) : Prop := H.size = g.1 + h.length ∧ h.length ≤ 1000000 ∧ va_P g.2.1 vwCl (qw g h) H
def qA (g : qG) : Nat → Prop := fun q => g.1 ≤ q
/-- words of the tables that stay good as the tables warm up; those of arrays over a class are told apart -/
def q_g (w : Cond) : Bool := match w with
  | .methodLinkNest _ _ _ _ => true
  | .declares _ => true
  | .castable _ _ => true
  | w => w.onTables && w.keeps
def qtb : List Cond := lw_tbl.filter q_g
/-- the tables' words, at a state -/
def qT (U : State) : Prop := (∀ w ∈ qtb, w.before #[] U = true) ∧ (∀ ty, Cond.arrayOver ty ∈ lw_tbl → ∀ A, (Cond.arrayOver ty).before A U = true) ∧ ∀ ty, Cond.arrayClass ty ∈ lw_tbl → ∀ A, (Cond.arrayClass ty).before A U = true
/-- the text constants: lengths, bytes, places in the pool, texts -/
def qlens : List Nat := [4, 5, 6, 5, 3, 3, 3, 3, 2, 2]
def qbyt : List (List Int32) := [[112, 108, 111, 116], [115, 104, 105, 114, 116], [99, 104, 97, 114, 103, 101], [112, 114, 111, 111, 102], [108, 97, 119], [100, 97, 121], [49, 50, 59], [49, 108, 59], [100, 59], [49, 59]]
def qtix : List Nat := [128, 130, 132, 134, 136, 138, 139, 141, 143, 145]
def qtxs : List String := ["plot", "shirt", "charge", "proof", "law", "day", "12;", "1l;", "d;", "1;"]
def qX (g : qG) (U : State) : Prop := vk_S 10 qlens qbyt (fun j => g.2.2.2.1 j) (fun j => g.2.2.2.1 (100 + j)) (qA g) U U.heap ∧ (∀ j, j < 10 → vk_R RX3 (qtix.getD j 0) (qtxs.getD j "") (g.2.2.2.1 j) U) ∧ va_Z "java/lang/String" "COMPACT_STRINGS" "Z" (.int 1) (qA g) U U.heap ∧ va_Z "jdk/internal/util/Preconditions" "SIOOBE_FORMATTER" "Ljava/util/function/BiFunction;" g.2.2.2.2.1 (qA g) U U.heap ∧ (g.2.2.2.2.1 = .null ∨ g.2.2.2.2.1 = .ref (g.2.2.2.1 200)) ∧ va_X (g.2.2.2.1 300) g.2.2.2.2.2.1 g.2.2.2.2.2.2 U U.heap ∧ g.2.2.2.1 300 < g.1 ∧ g.1 ≤ U.heap.size
def qK (g : qG) (U : State) : Prop := va_K g.2.1 vwCl (qtys g) U ∧ qT U ∧ qX g U
theorem qX_same {g : qG} {u U : State} (hv : U.vm = u.vm) (hh : U.heap = u.heap) (h : qX g u) : qX g U := by
  obtain ⟨h1, h2, h3, h4, h5, h6, h7, h8⟩ := h
  have ha : u.vm.Alike U.vm := by rw [hv]; exact Vm.Alike.refl _
  refine ⟨?_, fun j hj => (h2 j hj).same hv, ?_, ?_, h5, ?_, h7, by rw [hh]; exact h8⟩
  · rw [hh]; exact h1.moved ha
  · rw [hh]; exact h3.moved ha
  · rw [hh]; exact h4.moved ha
  · rw [hh]; exact h6.moved ha
theorem qX_move {g : qG} {s U : State} (hW : s.WarmedH U.vm) (hz : s.heap.size ≤ U.heap.size) (hk : ∀ a : Nat, a < s.heap.size → ¬ qA g a → U.heap[a]? = s.heap[a]?) (h : qX g s) : qX g U := by
  obtain ⟨h1, h2, h3, h4, h5, h6, h7, h8⟩ := h
  exact ⟨(h1.moved hW.alike).kept hk, fun j hj => (h2 j hj).warm hW, (h3.moved hW.alike).kept hk, (h4.moved hW.alike).kept hk, h5, (h6.moved hW.alike).kept (hk _ (Nat.lt_of_lt_of_le h7 h8) (Nat.not_le.mpr h7)), h7, Nat.le_trans h8 hz⟩
def qRm (d mc ms : Nat) : Room := { frames := d, cells := mc, slots := ms, locals := 40 * d }
def qQ (g : qG) (n : Nat) (Z : Option Value → qH → Prop) : Array Value → State → Outcome → State → Prop := fun _ st o t => ∃ (v : Option Value) (h : qH), o = .returned (v.map (qv g)) ∧ Z v h ∧ h.length = n ∧ qI g h t.heap ∧ va_F (qA g) st t
def qPc (g : qG) (as : List Value) (h : qH) : Array Value → State → Prop := fun a U => a = (as.map (qv g)).toArray ∧ qI g h U.heap ∧ qK g U
/-- a method's contract: from these arguments and cells it returns, and what it answers and leaves is as Z says; mc new cells, ms new slots -/
def qE (l : Launch) (g : qG) (M : qMt) (d mc ms : Nat) (as : List Value) (h : qH) (Z : Option Value → qH → Prop) : Prop :=
  Met l M.1 [.code M.1 M.2.1 M.2.2.1 M.2.2.2] (qRm d mc ms) (qPc g as h) (qQ g (h.length + mc) Z) mc ms (qA g)
def qF (M : qMt) (g : qG) (p : Program) (s : State) (m : MethodId) (args : Array Value) (meth : Method) (c : Code) : Prop :=
  p.tables.exec = Jvm.exec ∧ c.code = M.2.1 ∧ meth.sig.returnType = M.2.2.2 ∧ c.maxLocals = M.2.2.1 ∧ s.vm.findClass M.1.cls = some m.cls ∧ meth.locks = false ∧ (M.1.name = "<init>" → meth.name = "<init>") ∧ qK g s ∧ (∀ w ∈ qtb, w.before args s = true)
/-- a method's own end -/
def qz (g : qG) (n mc ms : Nat) (Z : Option Value → qH → Prop) : List Frame → Array Value → State → State → Prop := fun below args s => MQ below (qQ g (n + mc) Z) args s mc ms (qA g)
/-- the machine stands at pc of the method M, with these locals, this stack, these cells (ce cells, sl slots made so far, of mc, ms in all): it comes to an end as Z says -/
def qV (l : Launch) (g : qG) (M : qMt) (d n mc ms ce sl : Nat) (Z : List Frame → Array Value → State → State → Prop) (pc : Nat) (lv : List (Nat × Value)) (st : List Value) (h : qH) : Prop :=
  ∀ (p : Program) (e : Env) (s : State) (m : MethodId) (args : Array Value) (below : List Frame) (meth : Method) (c : Code) (H : Heap) (locs : List Loc) (ls : Array Slot),
    qF M g p s m args meth c → s.heap.size = g.1 + n → h.length = n + ce → lv_has ls M.2.2.1 (lv.map (fun q => (q.1, qv g q.2))) → qI g h H → va_S (qA g) s.heap H locs →
    W p l e (qRm d mc ms) s m args below meth c H locs ce sl (Z below args s) (F0 m pc ls (st.map (qv g)))
theorem qv_cat (g : qG) (v : Value) : (qv g v).category = v.category := by cases v <;> rfl
theorem qv_nar (g : qG) {ty : FieldType} {v : Value} (h : narrow ty v = v) : narrow ty (qv g v) = qv g v := by
  cases v <;> first | exact h | (cases ty <;> rfl)
theorem qv_fit (g : qG) {ty : FieldType} {v : Value} (h : fits ty v = true) : fits ty (qv g v) = true := by
  cases v <;> first | exact h | (cases ty <;> first | rfl | exact h)
theorem qw_at {g : qG} {h : qH} {k : Nat} {c : qC} (hk : h[k]? = some c) : (qw g h)[k]? = some (g.1 + k, qc g c) := by
  unfold qw; rw [List.getElem?_mapIdx, hk]; rfl
theorem qw_of {g : qG} {h : qH} {k : Nat} {q : Nat × va_E} (hk : (qw g h)[k]? = some q) : ∃ c, h[k]? = some c ∧ q = (g.1 + k, qc g c) := by
  unfold qw at hk; rw [List.getElem?_mapIdx] at hk
  cases hc : h[k]? with
  | none => rw [hc] at hk; cases hk
  | some c => rw [hc] at hk; exact ⟨c, rfl, (Option.some.inj hk).symm⟩
theorem qw_set (g : qG) (h : qH) (k : Nat) (c : qC) : (qw g h).set k (g.1 + k, qc g c) = qw g (h.set k c) := by
  apply List.ext_getElem?
  intro i
  unfold qw
  rw [List.getElem?_mapIdx, List.getElem?_set, List.getElem?_set, List.getElem?_mapIdx, List.length_mapIdx]
  by_cases e : k = i
  · subst e
    by_cases hl : k < h.length
    · simp [hl]
    · simp [hl]
  · simp [e]
theorem qw_push (g : qG) (h : qH) (c : qC) : qw g h ++ [(g.1 + h.length, qc g c)] = qw g (h ++ [c]) := by
  unfold qw; rw [List.mapIdx_append]; simp
theorem qw_D (g : qG) (h : qH) : va_D (qA g) (qw g h) := by
  refine ⟨fun i j p q hi hj e => ?_, fun k q hk => ?_⟩
  · obtain ⟨c1, -, r1⟩ := qw_of hi
    obtain ⟨c2, -, r2⟩ := qw_of hj
    rw [r1, r2] at e
    have e' : g.1 + i = g.1 + j := e
    omega
  · obtain ⟨c1, -, r1⟩ := qw_of hk
    rw [r1]
    exact Nat.le_add_right _ _
theorem qI_lt {g : qG} {h : qH} {H : Heap} (hI : qI g h H) {k : Nat} {c : qC} (hk : h[k]? = some c) : qad g k = g.1 + k := by
  have h1 : k < h.length := (List.getElem?_eq_some_iff.mp hk).1
  unfold qad
  rw [if_pos (Nat.lt_of_lt_of_le h1 hI.2.1)]
theorem q_lkm {lv : List (Nat × Value)} {i : Nat} {v : Value} (h : List.lookup i lv = some v) : (i, v) ∈ lv := by
  induction lv with
  | nil => cases h
  | cons a t ih =>
    obtain ⟨j, w⟩ := a
    rw [List.lookup_cons] at h
    by_cases e : i == j
    · rw [e] at h
      have hw : w = v := Option.some.inj h
      have he : i = j := by simpa using e
      subst hw; subst he
      exact List.mem_cons_self
    · have e' : (i == j) = false := by simpa using e
      rw [e'] at h
      exact List.mem_cons_of_mem _ (ih h)
theorem q_lat {g : qG} {ls : Array Slot} {nL : Nat} {lv : List (Nat × Value)} (hl : lv_has ls nL (lv.map (fun q => (q.1, qv g q.2)))) {i : Nat} {v : Value} (h : List.lookup i lv = some v) : ls[i]? = some (.val (qv g v)) :=
  hl.2.2 (i, qv g v) (List.mem_map.mpr ⟨(i, v), q_lkm h, rfl⟩)
/-- the locals behind a store of one word, of two -/
def q_st1 (lv : List (Nat × Value)) (i : Nat) (v : Value) : List (Nat × Value) := (i, v) :: lv.filter (fun q => !(q.1 == i) && !(q.1 + 1 == i && q.2.category == 2))
def q_st2 (lv : List (Nat × Value)) (i : Nat) (v : Value) : List (Nat × Value) := (i, v) :: lv.filter (fun q => !(q.1 == i) && (!(q.1 == i + 1) && !(q.1 + 1 == i && q.2.category == 2)))
theorem q_st1_map (g : qG) (lv : List (Nat × Value)) (i : Nat) (v : Value) : (i, qv g v) :: (lv.map (fun q => (q.1, qv g q.2))).filter (fun q => !(q.1 == i) && !(q.1 + 1 == i && q.2.category == 2)) = (q_st1 lv i v).map (fun q => (q.1, qv g q.2)) := by
  unfold q_st1
  rw [List.map_cons, List.filter_map]
  congr 3
  funext q
  simp [Function.comp, qv_cat]
theorem q_st2_map (g : qG) (lv : List (Nat × Value)) (i : Nat) (v : Value) : (i, qv g v) :: (lv.map (fun q => (q.1, qv g q.2))).filter (fun q => !(q.1 == i) && (!(q.1 == i + 1) && !(q.1 + 1 == i && q.2.category == 2))) = (q_st2 lv i v).map (fun q => (q.1, qv g q.2)) := by
  unfold q_st2
  rw [List.map_cons, List.filter_map]
  congr 3
  funext q
  simp [Function.comp, qv_cat]
theorem q_argsmap (g : qG) : ∀ (as : List Value) (i : Nat), lv_args i (as.map (qv g)) = (lv_args i as).map (fun q => (q.1, qv g q.2))
  | [], _ => rfl
  | v :: vs, i => by
    show (i, qv g v) :: lv_args _ (vs.map (qv g)) = _
    rw [q_argsmap g vs, qv_cat]
    rfl
theorem q_catsum (g : qG) (st : List Value) : ((st.map (qv g)).map fun v => v.category).sum = (st.map fun v => v.category).sum := by
  rw [List.map_map]
  congr 2
  funext v
  exact qv_cat g v
theorem q_slmap (g : qG) : ∀ (as : List Value), (lg_sl (as.map (qv g))).length = (lg_sl as).length
  | [] => rfl
  | v :: vs => by
    have ih := q_slmap g vs
    cases v <;> simp_all [lg_sl, qv, Value.category]
theorem q_gof (w : Cond) (h : w ∈ qtb) : q_g w = true := (List.mem_filter.mp h).2
set_option maxRecDepth 100000 in
theorem q_tblont : qtb.all (fun w => w.onTables) = true := by decide +kernel
theorem q_ont (w : Cond) (h : w ∈ qtb) : w.onTables = true := List.all_eq_true.mp q_tblont w h
theorem q_over {s U : State} {ty : FieldType} {A B : Array Value} (hvm : s.vm = U.vm) (h : (Cond.arrayOver ty).before A s = true) : (Cond.arrayOver ty).before B U = true := by
  have e : (Cond.arrayOver ty).before B U = (Cond.arrayOver ty).before A (s.setVm U.vm) := by
    simp only [Cond.before, Cond.holds, Cond.value]
    rfl
  rw [e, ← hvm]
  exact h
theorem q_acls {s U : State} {ty : FieldType} {A B : Array Value} (hvm : s.vm = U.vm) (h : (Cond.arrayClass ty).before A s = true) : (Cond.arrayClass ty).before B U = true := by
  have e : (Cond.arrayClass ty).before B U = (Cond.arrayClass ty).before A (s.setVm U.vm) := by
    simp only [Cond.before, Cond.holds, Cond.value]
    rfl
  rw [e, ← hvm]
  exact h
theorem qT_move {s U : State} (hW : s.WarmedH U.vm) (h : qT s) : qT U := by
  refine ⟨fun w hw => ?_, fun ty hw A => ?_, fun ty hw A => ?_⟩
  · have hg := q_gof w hw
    have h1 := h.1 w hw
    cases w <;> first
      | exact word_at hW (Or.inl hg) h1
      | exact va_Nw.warmM hW h1
      | exact va_Nw.warmD hW h1
      | exact va_Nw.warmC hW h1
  · exact q_over (s := s.setVm U.vm) (A := A) rfl (by rw [Cond.arrayOver_setVmC hW.alike]; exact h.2.1 ty hw A)
  · exact word_at hW (Or.inr ⟨_, rfl⟩) (h.2.2 ty hw A)
theorem qT_any {U : State} (h : qT U) (A : Array Value) : ∀ w ∈ qtb, w.before A U = true := fun w hw => va_any (q_ont w hw) (h.1 w hw)
theorem qT_same {u U : State} (e : u.vm = U.vm) (h : qT u) : qT U := ⟨fun w hw => va_tabs (q_ont w hw) e (h.1 w hw), fun ty hw A => q_over (A := A) e (h.2.1 ty hw A), fun ty hw A => q_acls (A := A) e (h.2.2 ty hw A)⟩
theorem qPc_blind (g : qG) (as : List Value) (h : qH) : FrameBlind (qPc g as h) := by
  intro a U f mk q
  obtain ⟨q0, q1, q2, q3, q4⟩ := q
  exact ⟨q0, q1, va_K.moved (u := U) (U := U.calling f mk a) (Vm.Alike.refl U.vm) q2, qT_same (u := U) rfl q3, qX_same (u := U) rfl rfl q4⟩
theorem q_of {l : Launch} {g : qG} {M : qMt} {d mc ms : Nat} {Z : Option Value → qH → Prop} {h : qH} {as : List Value} (hp : plainName M.1.cls = true) (hL : (lg_sl as).length ≤ M.2.2.1) (k : qV l g M d h.length mc ms 0 0 (qz g h.length mc ms Z) 0 (lv_args 0 as) [] h) : qE l g M d mc ms as h Z := by
  refine Met.ofW (cc := M.2.1) (maxL := M.2.2.1) (ret := M.2.2.2) hp rfl ?_
  intro p e s m args below meth c s₁ B hml hv
  obtain ⟨rfl, hI, hK⟩ := hv
  have hl := lv_entry (as.map (qv g)) (n := M.2.2.1) (by rw [q_slmap]; exact hL)
  rw [lg_entry_eq]
  generalize (lg_sl (as.map (qv g)) ++ List.replicate (M.2.2.1 - (lg_sl (as.map (qv g))).length) Slot.unset).toArray = ls at hl ⊢
  rw [q_argsmap] at hl
  exact k p e s m _ below meth c s.heap [] ls ⟨B.exec, B.bytes, B.returns, hml, findClass_of_methodNamed B.named, B.notSynchronized, fun hq => (name_of_methodNamed B.named B.method).1.trans hq, hK, qT_any hK.2.1 _⟩ hI.1 rfl hl hI va_S.rf

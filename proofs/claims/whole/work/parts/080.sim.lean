/-! PROGRAMS over the pure world: what a method does, as a function of the cells (none: it would leave what is told: a wrong index, null ..); qS: from here on the machine does what the program says -/
abbrev qP (α : Type) : Type := qH → Option (α × qH)
def qb {α β : Type} (m : qP α) (k : α → qP β) : qP β := fun h => match m h with
  | some r => k r.1 r.2
  | none => none
def qr {α : Type} (a : α) : qP α := fun h => some (a, h)
def qfail {α : Type} : qP α := fun _ => none
def gI (ci a k : Nat) : qP Int32 := fun h => match h[a]? with
  | some (.inr (.inr o)) => if o.1 = ci then (match o.2[k]? with | some (.int x) => some (x, h) | _ => none) else none
  | _ => none
def gL (ci a k : Nat) : qP Int64 := fun h => match h[a]? with
  | some (.inr (.inr o)) => if o.1 = ci then (match o.2[k]? with | some (.long x) => some (x, h) | _ => none) else none
  | _ => none
def gR (ci a k : Nat) : qP Nat := fun h => match h[a]? with
  | some (.inr (.inr o)) => if o.1 = ci then (match o.2[k]? with | some (.ref x) => some (x, h) | _ => none) else none
  | _ => none
def pV (ci a k : Nat) (v : Value) : qP Unit := fun h => match h[a]? with
  | some (.inr (.inr o)) => if o.1 = ci ∧ k < o.2.length then some ((), h.set a (.inr (.inr (ci, o.2.set k v)))) else none
  | _ => none
def aI (a : Nat) (i : Int32) : qP Int32 := fun h => match h[a]? with
  | some (.inl r) => if r.1 = 0 then (if i < 0 ∨ r.2.1 ≤ i.toNatClampNeg then none else some (r.2.2 i.toNatClampNeg, h)) else none
  | _ => none
def sI (a : Nat) (i x : Int32) : qP Unit := fun h => match h[a]? with
  | some (.inl r) => if r.1 = 0 then (if i < 0 ∨ r.2.1 ≤ i.toNatClampNeg then none else some ((), h.set a (.inl (0, r.2.1, upd r.2.2 i.toNatClampNeg x)))) else none
  | _ => none
def aZ (a : Nat) (i : Int32) : qP Int32 := fun h => match h[a]? with
  | some (.inl r) => if r.1 = 1 then (if i < 0 ∨ r.2.1 ≤ i.toNatClampNeg then none else some (r.2.2 i.toNatClampNeg, h)) else none
  | _ => none
def sZ (a : Nat) (i x : Int32) : qP Unit := fun h => match h[a]? with
  | some (.inl r) => if r.1 = 1 then (if i < 0 ∨ r.2.1 ≤ i.toNatClampNeg then none else some ((), h.set a (.inl (1, r.2.1, upd r.2.2 i.toNatClampNeg (vp_nar .boolean x))))) else none
  | _ => none
def aQ (t a : Nat) (i : Int32) : qP (Option Nat) := fun h => match h[a]? with
  | some (.inr (.inl r)) => if r.1 = t then (if i < 0 ∨ r.2.1 ≤ i.toNatClampNeg then none else some (r.2.2 i.toNatClampNeg, h)) else none
  | _ => none
def qso (x : Option Nat) : qP Nat := fun h => match x with
  | some a => some (a, h)
  | none => none
def aL (a : Nat) : qP Int32 := fun h => match h[a]? with
  | some (.inl r) => if r.1 = 0 then some (Int32.ofNat r.2.1, h) else none
  | some (.inr (.inl r)) => if r.1 < 3 then some (Int32.ofNat r.2.1, h) else none
  | _ => none
def cp (a : Nat) (sp : Int32) (b : Nat) (dp len : Int32) : qP Unit := fun h => match h[a]?, h[b]? with
  | some (.inl r), some (.inl q) => if r.1 = 0 ∧ q.1 = 0 then (if sp < 0 ∨ dp < 0 ∨ len < 0 ∨ r.2.1 < sp.toNatClampNeg + len.toNatClampNeg ∨ q.2.1 < dp.toNatClampNeg + len.toNatClampNeg then none else some ((), h.set b (.inl (0, q.2.1, va_cpy r.2.2 q.2.2 sp.toNatClampNeg dp.toNatClampNeg len.toNatClampNeg)))) else none
  | _, _ => none
def qcl (ci a : Nat) : qP Unit := fun h => match h[a]? with
  | some (.inr (.inr o)) => if o.1 = ci then some ((), h) else none
  | _ => none
def qkd (a : Nat) : qP Nat := fun h => match h[a]? with
  | some (.inr (.inr o)) => some (o.1, h)
  | _ => none
def qnw (c : qC) : qP Nat := fun h => if h.length < 1000000 then some (h.length, h ++ [c]) else none
def qng (N K : Nat) : qP Nat := fun h => if h.length + (1 + N) ≤ 1000000 then some (h.length, h ++ (.inr (.inl (2, N, fun j => if j < N then some (h.length + 1 + j) else none)) :: List.replicate N (.inl (0, K, fun _ => 0)))) else none
def sQ (t a : Nat) (i : Int32) (b : Nat) : qP Unit := fun h => match h[a]?, h[b]? with
  | some (.inr (.inl r)), some (.inr (.inr o)) => if r.1 = t ∧ (t = 0 ∧ (o.1 = 5 ∨ o.1 = 7 ∨ o.1 = 6 ∨ o.1 = 1 ∨ o.1 = 9 ∨ o.1 = 10) ∨ t = 1 ∧ o.1 = 2) then (if i < 0 ∨ r.2.1 ≤ i.toNatClampNeg then none else some ((), h.set a (.inr (.inl (t, r.2.1, va_up r.2.2 i.toNatClampNeg (some b)))))) else none
  | _, _ => none
def qmo {α : Type} (y : Option Nat) (k1 : qP α) (k2 : Nat → qP α) : qP α := match y with
  | none => k1
  | some x => k2 x
/-- a condition that must hold -/
def qgd {α : Type} (c : Prop) [Decidable c] (p : qP α) : qP α := fun h => if c then p h else none
def cvI (x : Int32) : Option Value := some (.int x)
def cvL (x : Int64) : Option Value := some (.long x)
def cvR (x : Nat) : Option Value := some (.ref x)
def cvV (_ : Unit) : Option Value := none
def qS {α : Type} (l : Launch) (g : qG) (M : qMt) (d n mc ms ce sl : Nat) (cv : α → Option Value) (pc : Nat) (lv : List (Nat × Value)) (st : List Value) (p : qP α) : Prop :=
  ∀ (h : qH) (v : α) (h' : qH), p h = some (v, h') → qV l g M d n mc ms ce sl (qz g n mc ms (fun x y => x = cv v ∧ y = h')) pc lv st h
/-- a method's contract by a program -/
def qCt {α : Type} (l : Launch) (g : qG) (M : qMt) (d mc ms : Nat) (cv : α → Option Value) (as : List Value) (f : qP α) : Prop :=
  ∀ (h : qH) (v : α) (h' : qH), f h = some (v, h') → qE l g M d mc ms as h (fun x y => x = cv v ∧ y = h')
theorem qb_some {α β : Type} {m : qP α} {k : α → qP β} {h : qH} {r : β × qH} (e : qb m k h = some r) : ∃ (a : α) (h1 : qH), m h = some (a, h1) ∧ k a h1 = some r := by
  unfold qb at e
  cases hm : m h with
  | none => rw [hm] at e; cases e
  | some q => rw [hm] at e; exact ⟨q.1, q.2, rfl, e⟩
theorem gI_some {ci a k : Nat} {h h1 : qH} {x : Int32} (e : gI ci a k h = some (x, h1)) : ∃ fs, h[a]? = some (.inr (.inr (ci, fs))) ∧ fs[k]? = some (.int x) ∧ h1 = h := by
  unfold gI at e
  split at e
  case h_1 o ho =>
    split at e
    case isTrue hc =>
      split at e
      case h_1 y hy => cases e; exact ⟨o.2, by rw [ho, ← hc], hy, rfl⟩
      case h_2 => cases e
    case isFalse => cases e
  case h_2 => cases e
theorem gL_some {ci a k : Nat} {h h1 : qH} {x : Int64} (e : gL ci a k h = some (x, h1)) : ∃ fs, h[a]? = some (.inr (.inr (ci, fs))) ∧ fs[k]? = some (.long x) ∧ h1 = h := by
  unfold gL at e
  split at e
  case h_1 o ho =>
    split at e
    case isTrue hc =>
      split at e
      case h_1 y hy => cases e; exact ⟨o.2, by rw [ho, ← hc], hy, rfl⟩
      case h_2 => cases e
    case isFalse => cases e
  case h_2 => cases e
theorem gR_some {ci a k : Nat} {h h1 : qH} {x : Nat} (e : gR ci a k h = some (x, h1)) : ∃ fs, h[a]? = some (.inr (.inr (ci, fs))) ∧ fs[k]? = some (.ref x) ∧ h1 = h := by
  unfold gR at e
  split at e
  case h_1 o ho =>
    split at e
    case isTrue hc =>
      split at e
      case h_1 y hy => cases e; exact ⟨o.2, by rw [ho, ← hc], hy, rfl⟩
      case h_2 => cases e
    case isFalse => cases e
  case h_2 => cases e
theorem pV_some {ci a k : Nat} {w : Value} {h h1 : qH} {u : Unit} (e : pV ci a k w h = some (u, h1)) : ∃ fs, h[a]? = some (.inr (.inr (ci, fs))) ∧ k < fs.length ∧ h1 = h.set a (.inr (.inr (ci, fs.set k w))) := by
  unfold pV at e
  split at e
  case h_1 o ho =>
    split at e
    case isTrue hc => cases e; exact ⟨o.2, by rw [ho, ← hc.1], hc.2, rfl⟩
    case isFalse => cases e
  case h_2 => cases e
theorem aI_some {a : Nat} {i x : Int32} {h h1 : qH} (e : aI a i h = some (x, h1)) : ∃ N f, h[a]? = some (.inl (0, N, f)) ∧ vp_in i N ∧ x = f i.toNatClampNeg ∧ h1 = h := by
  unfold aI at e
  split at e
  case h_1 r hr =>
    split at e
    case isTrue hc =>
      split at e
      case isTrue => cases e
      case isFalse hi => cases e; exact ⟨r.2.1, r.2.2, by rw [hr, ← hc], hi, rfl, rfl⟩
    case isFalse => cases e
  case h_2 => cases e
theorem aZ_some {a : Nat} {i x : Int32} {h h1 : qH} (e : aZ a i h = some (x, h1)) : ∃ N f, h[a]? = some (.inl (1, N, f)) ∧ vp_in i N ∧ x = f i.toNatClampNeg ∧ h1 = h := by
  unfold aZ at e
  split at e
  case h_1 r hr =>
    split at e
    case isTrue hc =>
      split at e
      case isTrue => cases e
      case isFalse hi => cases e; exact ⟨r.2.1, r.2.2, by rw [hr, ← hc], hi, rfl, rfl⟩
    case isFalse => cases e
  case h_2 => cases e
theorem sI_some {a : Nat} {i x : Int32} {h h1 : qH} {u : Unit} (e : sI a i x h = some (u, h1)) : ∃ N f, h[a]? = some (.inl (0, N, f)) ∧ vp_in i N ∧ h1 = h.set a (.inl (0, N, upd f i.toNatClampNeg x)) := by
  unfold sI at e
  split at e
  case h_1 r hr =>
    split at e
    case isTrue hc =>
      split at e
      case isTrue => cases e
      case isFalse hi => cases e; exact ⟨r.2.1, r.2.2, by rw [hr, ← hc], hi, rfl⟩
    case isFalse => cases e
  case h_2 => cases e
theorem sZ_some {a : Nat} {i x : Int32} {h h1 : qH} {u : Unit} (e : sZ a i x h = some (u, h1)) : ∃ N f, h[a]? = some (.inl (1, N, f)) ∧ vp_in i N ∧ h1 = h.set a (.inl (1, N, upd f i.toNatClampNeg (vp_nar .boolean x))) := by
  unfold sZ at e
  split at e
  case h_1 r hr =>
    split at e
    case isTrue hc =>
      split at e
      case isTrue => cases e
      case isFalse hi => cases e; exact ⟨r.2.1, r.2.2, by rw [hr, ← hc], hi, rfl⟩
    case isFalse => cases e
  case h_2 => cases e
theorem aQ_some {t a : Nat} {i : Int32} {x : Option Nat} {h h1 : qH} (e : aQ t a i h = some (x, h1)) : ∃ N f, h[a]? = some (.inr (.inl (t, N, f))) ∧ vp_in i N ∧ x = f i.toNatClampNeg ∧ h1 = h := by
  unfold aQ at e
  split at e
  case h_1 r hr =>
    split at e
    case isTrue hc =>
      split at e
      case isTrue => cases e
      case isFalse hi => cases e; exact ⟨r.2.1, r.2.2, by rw [hr, ← hc], hi, rfl, rfl⟩
    case isFalse => cases e
  case h_2 => cases e
theorem cp_some {a b : Nat} {sp dp len : Int32} {h h1 : qH} {u : Unit} (e : cp a sp b dp len h = some (u, h1)) : ∃ N0 N1 f f1, h[a]? = some (.inl (0, N0, f)) ∧ h[b]? = some (.inl (0, N1, f1)) ∧ (¬ sp < 0 ∧ ¬ dp < 0 ∧ ¬ len < 0 ∧ sp.toNatClampNeg + len.toNatClampNeg ≤ N0 ∧ dp.toNatClampNeg + len.toNatClampNeg ≤ N1) ∧ h1 = h.set b (.inl (0, N1, va_cpy f f1 sp.toNatClampNeg dp.toNatClampNeg len.toNatClampNeg)) := by
  unfold cp at e
  split at e
  case h_1 r q hr hq =>
    split at e
    case isTrue hc =>
      split at e
      case isTrue => cases e
      case isFalse hi =>
        cases e
        refine ⟨r.2.1, q.2.1, r.2.2, q.2.2, by rw [hr, ← hc.1], by rw [hq, ← hc.2], ⟨fun x => hi (Or.inl x), fun x => hi (Or.inr (Or.inl x)), fun x => hi (Or.inr (Or.inr (Or.inl x))), ?_, ?_⟩, rfl⟩
        · exact Nat.not_lt.mp fun x => hi (Or.inr (Or.inr (Or.inr (Or.inl x))))
        · exact Nat.not_lt.mp fun x => hi (Or.inr (Or.inr (Or.inr (Or.inr x))))
    case isFalse => cases e
  case h_2 => cases e
theorem qcl_some {ci a : Nat} {h h1 : qH} {u : Unit} (e : qcl ci a h = some (u, h1)) : ∃ fs, h[a]? = some (.inr (.inr (ci, fs))) ∧ h1 = h := by
  unfold qcl at e
  split at e
  case h_1 o ho =>
    split at e
    case isTrue hc => cases e; exact ⟨o.2, by rw [ho, ← hc], rfl⟩
    case isFalse => cases e
  case h_2 => cases e
theorem qkd_some {a c : Nat} {h h1 : qH} (e : qkd a h = some (c, h1)) : ∃ fs, h[a]? = some (.inr (.inr (c, fs))) ∧ h1 = h := by
  unfold qkd at e
  split at e
  case h_1 o ho => cases e; exact ⟨o.2, ho, rfl⟩
  case h_2 => cases e
section QS
variable {α : Type} {l : Launch} {g : qG} {M : qMt} {d n mc ms ce sl : Nat} {cv : α → Option Value} {pc : Nat} {lv : List (Nat × Value)} {st : List Value} {p p1 p2 : qP α}
theorem s_fail : qS l g M d n mc ms ce sl cv pc lv st (qfail : qP α) := fun h v h' e => by cases e
theorem s_iconst {i : Int} {v : Int32} (hd : decode M.2.1 pc = .ok (.iconst i, 1)) (hv : Int32.ofInt i = v) (k : qS l g M d n mc ms ce sl cv (pc + 1) lv (.int v :: st) p) : qS l g M d n mc ms ce sl cv pc lv (st) p := fun h v h' e => q_iconst hd hv (k h v h' e)
theorem s_bipush {i : Int} {v : Int32} (hd : decode M.2.1 pc = .ok (.bipush i, 2)) (hv : (Int8.ofInt i).toInt32 = v) (k : qS l g M d n mc ms ce sl cv (pc + 2) lv (.int v :: st) p) : qS l g M d n mc ms ce sl cv pc lv (st) p := fun h v h' e => q_bipush hd hv (k h v h' e)
theorem s_sipush {i : Int} {v : Int32} (hd : decode M.2.1 pc = .ok (.sipush i, 3)) (hv : (Int16.ofInt i).toInt32 = v) (k : qS l g M d n mc ms ce sl cv (pc + 3) lv (.int v :: st) p) : qS l g M d n mc ms ce sl cv pc lv (st) p := fun h v h' e => q_sipush hd hv (k h v h' e)
theorem s_lconst {i : Fin 2} {v : Int64} (hd : decode M.2.1 pc = .ok (.lconst i, 1)) (hv : Int64.ofNat (i : Nat) = v) (k : qS l g M d n mc ms ce sl cv (pc + 1) lv (.long v :: st) p) : qS l g M d n mc ms ce sl cv pc lv (st) p := fun h v h' e => q_lconst hd hv (k h v h' e)
theorem s_iadd {x y : Int32} (hd : decode M.2.1 pc = .ok (.iadd, 1)) (k : qS l g M d n mc ms ce sl cv (pc + 1) lv (.int (x + y) :: st) p) : qS l g M d n mc ms ce sl cv pc lv (.int y :: .int x :: st) p := fun h v h' e => q_iadd hd (k h v h' e)
theorem s_isub {x y : Int32} (hd : decode M.2.1 pc = .ok (.isub, 1)) (k : qS l g M d n mc ms ce sl cv (pc + 1) lv (.int (x - y) :: st) p) : qS l g M d n mc ms ce sl cv pc lv (.int y :: .int x :: st) p := fun h v h' e => q_isub hd (k h v h' e)
theorem s_imul {x y : Int32} (hd : decode M.2.1 pc = .ok (.imul, 1)) (k : qS l g M d n mc ms ce sl cv (pc + 1) lv (.int (x * y) :: st) p) : qS l g M d n mc ms ce sl cv pc lv (.int y :: .int x :: st) p := fun h v h' e => q_imul hd (k h v h' e)
theorem s_iand {x y : Int32} (hd : decode M.2.1 pc = .ok (.iand, 1)) (k : qS l g M d n mc ms ce sl cv (pc + 1) lv (.int (x &&& y) :: st) p) : qS l g M d n mc ms ce sl cv pc lv (.int y :: .int x :: st) p := fun h v h' e => q_iand hd (k h v h' e)
theorem s_ior {x y : Int32} (hd : decode M.2.1 pc = .ok (.ior, 1)) (k : qS l g M d n mc ms ce sl cv (pc + 1) lv (.int (x ||| y) :: st) p) : qS l g M d n mc ms ce sl cv pc lv (.int y :: .int x :: st) p := fun h v h' e => q_ior hd (k h v h' e)
theorem s_ixor {x y : Int32} (hd : decode M.2.1 pc = .ok (.ixor, 1)) (k : qS l g M d n mc ms ce sl cv (pc + 1) lv (.int (x ^^^ y) :: st) p) : qS l g M d n mc ms ce sl cv pc lv (.int y :: .int x :: st) p := fun h v h' e => q_ixor hd (k h v h' e)
theorem s_ishl {x y : Int32} (hd : decode M.2.1 pc = .ok (.ishl, 1)) (k : qS l g M d n mc ms ce sl cv (pc + 1) lv (.int (x <<< (y &&& 31)) :: st) p) : qS l g M d n mc ms ce sl cv pc lv (.int y :: .int x :: st) p := fun h v h' e => q_ishl hd (k h v h' e)
theorem s_ishr {x y : Int32} (hd : decode M.2.1 pc = .ok (.ishr, 1)) (k : qS l g M d n mc ms ce sl cv (pc + 1) lv (.int (x >>> (y &&& 31)) :: st) p) : qS l g M d n mc ms ce sl cv pc lv (.int y :: .int x :: st) p := fun h v h' e => q_ishr hd (k h v h' e)
theorem s_idiv {x y : Int32} (hd : decode M.2.1 pc = .ok (.idiv, 1)) (hy : ¬ y = 0) (k : qS l g M d n mc ms ce sl cv (pc + 1) lv (.int (x / y) :: st) p) : qS l g M d n mc ms ce sl cv pc lv (.int y :: .int x :: st) p := fun h v h' e => q_idiv hd hy (k h v h' e)
theorem s_irem {x y : Int32} (hd : decode M.2.1 pc = .ok (.irem, 1)) (hy : ¬ y = 0) (k : qS l g M d n mc ms ce sl cv (pc + 1) lv (.int (x - x / y * y) :: st) p) : qS l g M d n mc ms ce sl cv pc lv (.int y :: .int x :: st) p := fun h v h' e => q_irem hd hy (k h v h' e)
theorem s_ladd {x y : Int64} (hd : decode M.2.1 pc = .ok (.ladd, 1)) (k : qS l g M d n mc ms ce sl cv (pc + 1) lv (.long (x + y) :: st) p) : qS l g M d n mc ms ce sl cv pc lv (.long y :: .long x :: st) p := fun h v h' e => q_ladd hd (k h v h' e)
theorem s_lsub {x y : Int64} (hd : decode M.2.1 pc = .ok (.lsub, 1)) (k : qS l g M d n mc ms ce sl cv (pc + 1) lv (.long (x - y) :: st) p) : qS l g M d n mc ms ce sl cv pc lv (.long y :: .long x :: st) p := fun h v h' e => q_lsub hd (k h v h' e)
theorem s_lmul {x y : Int64} (hd : decode M.2.1 pc = .ok (.lmul, 1)) (k : qS l g M d n mc ms ce sl cv (pc + 1) lv (.long (x * y) :: st) p) : qS l g M d n mc ms ce sl cv pc lv (.long y :: .long x :: st) p := fun h v h' e => q_lmul hd (k h v h' e)
theorem s_land {x y : Int64} (hd : decode M.2.1 pc = .ok (.land, 1)) (k : qS l g M d n mc ms ce sl cv (pc + 1) lv (.long (x &&& y) :: st) p) : qS l g M d n mc ms ce sl cv pc lv (.long y :: .long x :: st) p := fun h v h' e => q_land hd (k h v h' e)
theorem s_lor {x y : Int64} (hd : decode M.2.1 pc = .ok (.lor, 1)) (k : qS l g M d n mc ms ce sl cv (pc + 1) lv (.long (x ||| y) :: st) p) : qS l g M d n mc ms ce sl cv pc lv (.long y :: .long x :: st) p := fun h v h' e => q_lor hd (k h v h' e)
theorem s_ldiv {x y : Int64} (hd : decode M.2.1 pc = .ok (.ldiv, 1)) (k : qS l g M d n mc ms ce sl cv (pc + 1) lv (.long (x / y) :: st) p) : qS l g M d n mc ms ce sl cv pc lv (.long y :: .long x :: st) (qgd (¬ y = 0) p) := fun h v h' e => by
  unfold qgd at e
  split at e
  case isTrue hy => exact q_ldiv hd hy (k h v h' e)
  case isFalse => cases e
theorem s_lrem {x y : Int64} (hd : decode M.2.1 pc = .ok (.lrem, 1)) (k : qS l g M d n mc ms ce sl cv (pc + 1) lv (.long (x - x / y * y) :: st) p) : qS l g M d n mc ms ce sl cv pc lv (.long y :: .long x :: st) (qgd (¬ y = 0) p) := fun h v h' e => by
  unfold qgd at e
  split at e
  case isTrue hy => exact q_lrem hd hy (k h v h' e)
  case isFalse => cases e
theorem s_lshl {x : Int64} {y : Int32} (hd : decode M.2.1 pc = .ok (.lshl, 1)) (k : qS l g M d n mc ms ce sl cv (pc + 1) lv (.long (x <<< (y.toInt64 &&& 63)) :: st) p) : qS l g M d n mc ms ce sl cv pc lv (.int y :: .long x :: st) p := fun h v h' e => q_lshl hd (k h v h' e)
theorem s_lshr {x : Int64} {y : Int32} (hd : decode M.2.1 pc = .ok (.lshr, 1)) (k : qS l g M d n mc ms ce sl cv (pc + 1) lv (.long (x >>> (y.toInt64 &&& 63)) :: st) p) : qS l g M d n mc ms ce sl cv pc lv (.int y :: .long x :: st) p := fun h v h' e => q_lshr hd (k h v h' e)
theorem s_iushr {x y : Int32} (hd : decode M.2.1 pc = .ok (.iushr, 1)) (k : qS l g M d n mc ms ce sl cv (pc + 1) lv (.int (x.toUInt32 >>> (y.toUInt32 &&& Int32.toUInt32 31)).toInt32 :: st) p) : qS l g M d n mc ms ce sl cv pc lv (.int y :: .int x :: st) p := fun h v h' e => q_iushr hd (k h v h' e)
theorem s_lcmp {x y : Int64} (hd : decode M.2.1 pc = .ok (.lcmp, 1)) (k : qS l g M d n mc ms ce sl cv (pc + 1) lv (.int (lg_cmp x y) :: st) p) : qS l g M d n mc ms ce sl cv pc lv (.long y :: .long x :: st) p := fun h v h' e => q_lcmp hd (k h v h' e)
theorem s_i2l {x : Int32} (hd : decode M.2.1 pc = .ok (.i2l, 1)) (k : qS l g M d n mc ms ce sl cv (pc + 1) lv (.long x.toInt64 :: st) p) : qS l g M d n mc ms ce sl cv pc lv (.int x :: st) p := fun h v h' e => q_i2l hd (k h v h' e)
theorem s_l2i {x : Int64} (hd : decode M.2.1 pc = .ok (.l2i, 1)) (k : qS l g M d n mc ms ce sl cv (pc + 1) lv (.int x.toInt32 :: st) p) : qS l g M d n mc ms ce sl cv pc lv (.long x :: st) p := fun h v h' e => q_l2i hd (k h v h' e)
theorem s_dup {v : Value} (hd : decode M.2.1 pc = .ok (.dup, 1)) (hv : v.category = 1) (k : qS l g M d n mc ms ce sl cv (pc + 1) lv (v :: v :: st) p) : qS l g M d n mc ms ce sl cv pc lv (v :: st) p := fun h v h' e => q_dup hd hv (k h v h' e)
theorem s_pop {v : Value} (hd : decode M.2.1 pc = .ok (.pop, 1)) (hv : v.category = 1) (k : qS l g M d n mc ms ce sl cv (pc + 1) lv (st) p) : qS l g M d n mc ms ce sl cv pc lv (v :: st) p := fun h v h' e => q_pop hd hv (k h v h' e)
theorem s_dup_x1 {v w : Value} (hd : decode M.2.1 pc = .ok (.dup_x1, 1)) (hv : v.category = 1) (hw : w.category = 1) (k : qS l g M d n mc ms ce sl cv (pc + 1) lv (v :: w :: v :: st) p) : qS l g M d n mc ms ce sl cv pc lv (v :: w :: st) p := fun h v h' e => q_dup_x1 hd hv hw (k h v h' e)
theorem s_dup2 {v w : Value} (hd : decode M.2.1 pc = .ok (.dup2, 1)) (hv : v.category = 1) (hw : w.category = 1) (k : qS l g M d n mc ms ce sl cv (pc + 1) lv (v :: w :: v :: w :: st) p) : qS l g M d n mc ms ce sl cv pc lv (v :: w :: st) p := fun h v h' e => q_dup2 hd hv hw (k h v h' e)
theorem s_dup2L {v : Value} (hd : decode M.2.1 pc = .ok (.dup2, 1)) (hv : v.category = 2) (k : qS l g M d n mc ms ce sl cv (pc + 1) lv (v :: v :: st) p) : qS l g M d n mc ms ce sl cv pc lv (v :: st) p := fun h v h' e => q_dup2L hd hv (k h v h' e)
theorem s_iload_n {i : Fin 4} {x : Int32} (hd : decode M.2.1 pc = .ok (.iload_n i, 1)) (hv : List.lookup (i : Nat) lv = some (.int x)) (k : qS l g M d n mc ms ce sl cv (pc + 1) lv (.int x :: st) p) : qS l g M d n mc ms ce sl cv pc lv (st) p := fun h v h' e => q_iload_n hd hv (k h v h' e)
theorem s_iload {i : Nat} {x : Int32} (hd : decode M.2.1 pc = .ok (.iload i, 2)) (hv : List.lookup i lv = some (.int x)) (k : qS l g M d n mc ms ce sl cv (pc + 2) lv (.int x :: st) p) : qS l g M d n mc ms ce sl cv pc lv (st) p := fun h v h' e => q_iload hd hv (k h v h' e)
theorem s_lload_n {i : Fin 4} {x : Int64} (hd : decode M.2.1 pc = .ok (.lload_n i, 1)) (hv : List.lookup (i : Nat) lv = some (.long x)) (k : qS l g M d n mc ms ce sl cv (pc + 1) lv (.long x :: st) p) : qS l g M d n mc ms ce sl cv pc lv (st) p := fun h v h' e => q_lload_n hd hv (k h v h' e)
theorem s_lload {i : Nat} {x : Int64} (hd : decode M.2.1 pc = .ok (.lload i, 2)) (hv : List.lookup i lv = some (.long x)) (k : qS l g M d n mc ms ce sl cv (pc + 2) lv (.long x :: st) p) : qS l g M d n mc ms ce sl cv pc lv (st) p := fun h v h' e => q_lload hd hv (k h v h' e)
theorem s_aload_n {i : Fin 4} {x : Nat} (hd : decode M.2.1 pc = .ok (.aload_n i, 1)) (hv : List.lookup (i : Nat) lv = some (.ref x)) (k : qS l g M d n mc ms ce sl cv (pc + 1) lv (.ref x :: st) p) : qS l g M d n mc ms ce sl cv pc lv (st) p := fun h v h' e => q_aload_n hd hv (k h v h' e)
theorem s_aload {i : Nat} {x : Nat} (hd : decode M.2.1 pc = .ok (.aload i, 2)) (hv : List.lookup i lv = some (.ref x)) (k : qS l g M d n mc ms ce sl cv (pc + 2) lv (.ref x :: st) p) : qS l g M d n mc ms ce sl cv pc lv (st) p := fun h v h' e => q_aload hd hv (k h v h' e)
theorem s_istore_n {i : Fin 4} {x : Int32} {lv' : List (Nat × Value)} (hd : decode M.2.1 pc = .ok (.istore_n i, 1)) (hi : (i : Nat) < M.2.2.1) (hv : q_st1 lv (i : Nat) (.int x) = lv') (k : qS l g M d n mc ms ce sl cv (pc + 1) lv' st p) : qS l g M d n mc ms ce sl cv pc lv (.int x :: st) p := fun h v h' e => q_istore_n hd hi hv (k h v h' e)
theorem s_istore {i : Nat} {x : Int32} {lv' : List (Nat × Value)} (hd : decode M.2.1 pc = .ok (.istore i, 2)) (hi : i < M.2.2.1) (hv : q_st1 lv i (.int x) = lv') (k : qS l g M d n mc ms ce sl cv (pc + 2) lv' st p) : qS l g M d n mc ms ce sl cv pc lv (.int x :: st) p := fun h v h' e => q_istore hd hi hv (k h v h' e)
theorem s_lstore_n {i : Fin 4} {x : Int64} {lv' : List (Nat × Value)} (hd : decode M.2.1 pc = .ok (.lstore_n i, 1)) (hi : (i : Nat) + 1 < M.2.2.1) (hv : q_st2 lv (i : Nat) (.long x) = lv') (k : qS l g M d n mc ms ce sl cv (pc + 1) lv' st p) : qS l g M d n mc ms ce sl cv pc lv (.long x :: st) p := fun h v h' e => q_lstore_n hd hi hv (k h v h' e)
theorem s_lstore {i : Nat} {x : Int64} {lv' : List (Nat × Value)} (hd : decode M.2.1 pc = .ok (.lstore i, 2)) (hi : i + 1 < M.2.2.1) (hv : q_st2 lv i (.long x) = lv') (k : qS l g M d n mc ms ce sl cv (pc + 2) lv' st p) : qS l g M d n mc ms ce sl cv pc lv (.long x :: st) p := fun h v h' e => q_lstore hd hi hv (k h v h' e)
theorem s_astore_n {i : Fin 4} {x : Nat} {lv' : List (Nat × Value)} (hd : decode M.2.1 pc = .ok (.astore_n i, 1)) (hi : (i : Nat) < M.2.2.1) (hv : q_st1 lv (i : Nat) (.ref x) = lv') (k : qS l g M d n mc ms ce sl cv (pc + 1) lv' st p) : qS l g M d n mc ms ce sl cv pc lv (.ref x :: st) p := fun h v h' e => q_astore_n hd hi hv (k h v h' e)
theorem s_astore {i : Nat} {x : Nat} {lv' : List (Nat × Value)} (hd : decode M.2.1 pc = .ok (.astore i, 2)) (hi : i < M.2.2.1) (hv : q_st1 lv i (.ref x) = lv') (k : qS l g M d n mc ms ce sl cv (pc + 2) lv' st p) : qS l g M d n mc ms ce sl cv pc lv (.ref x :: st) p := fun h v h' e => q_astore hd hi hv (k h v h' e)
theorem s_iinc {i : Nat} {a : Int} {x : Int32} {lv' : List (Nat × Value)} (hd : decode M.2.1 pc = .ok (.iinc i a, 3)) (hx : List.lookup i lv = some (.int x)) (hi : i < M.2.2.1) (hv : q_st1 lv i (.int (x + Int32.ofInt a)) = lv') (k : qS l g M d n mc ms ce sl cv (pc + 3) lv' st p) : qS l g M d n mc ms ce sl cv pc lv st p := fun h v h' e => q_iinc hd hx hi hv (k h v h' e)
theorem s_goto {off : Int} {tgt : Nat} (hd : decode M.2.1 pc = .ok (.goto off, 3)) (ht : (pc : Int) + off = (tgt : Int)) (k : qS l g M d n mc ms ce sl cv tgt lv st p) : qS l g M d n mc ms ce sl cv pc lv st p := fun h v h' e => q_goto hd ht (k h v h' e)
theorem s_ldc2 {idx : Nat} {v : Int64} (hd : decode M.2.1 pc = .ok (.ldc2_w idx, 3)) (hw : Cond.constantLong M.1.cls idx v ∈ qtb) (k : qS l g M d n mc ms ce sl cv (pc + 3) lv (.long v :: st) p) : qS l g M d n mc ms ce sl cv pc lv st p := fun h v h' e => q_ldc2 hd hw (k h v h' e)
theorem s_ldcw {idx : Nat} {v : Int32} (hd : decode M.2.1 pc = .ok (.ldc_w idx, 3)) (hw : Cond.constant M.1.cls idx v ∈ qtb) (k : qS l g M d n mc ms ce sl cv (pc + 3) lv (.int v :: st) p) : qS l g M d n mc ms ce sl cv pc lv st p := fun h v h' e => q_ldcw hd hw (k h v h' e)
/-- the locals, by their places in the list -/
theorem s_locals {lv' : List (Nat × Value)} (is : List Nat) (hv : is.filterMap (fun i => lv[i]?) = lv') (k : qS l g M d n mc ms ce sl cv pc lv' st p) : qS l g M d n mc ms ce sl cv pc lv st p := fun h v h' e => q_locals (fun q hq => by
  subst hv
  obtain ⟨i, -, hi⟩ := List.mem_filterMap.mp hq
  exact List.mem_of_getElem? hi) (k h v h' e)
theorem s_eq {p' : qP α} (hp : p = p') (k : qS l g M d n mc ms ce sl cv pc lv st p') : qS l g M d n mc ms ce sl cv pc lv st p := by rw [hp]; exact k
theorem s_pc {pc' : Nat} (hp : pc = pc') (k : qS l g M d n mc ms ce sl cv pc' lv st p) : qS l g M d n mc ms ce sl cv pc lv st p := by rw [hp]; exact k
theorem s_if_eq {x : Int32} {off : Int} {tgt : Nat} (hd : decode M.2.1 pc = .ok (.ifCond .eq off, 3)) (ht : (pc : Int) + off = (tgt : Int)) (k1 : x = 0 → qS l g M d n mc ms ce sl cv tgt lv st p1) (k2 : ¬ x = 0 → qS l g M d n mc ms ce sl cv (pc + 3) lv st p2) : qS l g M d n mc ms ce sl cv pc lv (.int x :: st) (if x = 0 then p1 else p2) := fun h v h' e => q_if_eq hd ht (fun q => k1 q h v h' (by rw [if_pos q] at e; exact e)) (fun q => k2 q h v h' (by rw [if_neg q] at e; exact e))
theorem s_if_eqA {x : Int32} {off : Int} {tgt : Nat} (hd : decode M.2.1 pc = .ok (.ifCond .eq off, 3)) (ht : (pc : Int) + off = (tgt : Int)) (hc : x = 0) (k : qS l g M d n mc ms ce sl cv tgt lv st p) : qS l g M d n mc ms ce sl cv pc lv (.int x :: st) p := fun h v h' e => q_if_eq hd ht (fun q => k h v h' e) (fun q => absurd hc q)
theorem s_if_eqB {x : Int32} {off : Int} {tgt : Nat} (hd : decode M.2.1 pc = .ok (.ifCond .eq off, 3)) (ht : (pc : Int) + off = (tgt : Int)) (hc : ¬ x = 0) (k : qS l g M d n mc ms ce sl cv (pc + 3) lv st p) : qS l g M d n mc ms ce sl cv pc lv (.int x :: st) p := fun h v h' e => q_if_eq hd ht (fun q => absurd q hc) (fun q => k h v h' e)
theorem s_icmp_eq {x y : Int32} {off : Int} {tgt : Nat} (hd : decode M.2.1 pc = .ok (.if_icmp .eq off, 3)) (ht : (pc : Int) + off = (tgt : Int)) (k1 : x = y → qS l g M d n mc ms ce sl cv tgt lv st p1) (k2 : ¬ x = y → qS l g M d n mc ms ce sl cv (pc + 3) lv st p2) : qS l g M d n mc ms ce sl cv pc lv (.int y :: .int x :: st) (if x = y then p1 else p2) := fun h v h' e => q_icmp_eq hd ht (fun q => k1 q h v h' (by rw [if_pos q] at e; exact e)) (fun q => k2 q h v h' (by rw [if_neg q] at e; exact e))
theorem s_icmp_eqA {x y : Int32} {off : Int} {tgt : Nat} (hd : decode M.2.1 pc = .ok (.if_icmp .eq off, 3)) (ht : (pc : Int) + off = (tgt : Int)) (hc : x = y) (k : qS l g M d n mc ms ce sl cv tgt lv st p) : qS l g M d n mc ms ce sl cv pc lv (.int y :: .int x :: st) p := fun h v h' e => q_icmp_eq hd ht (fun q => k h v h' e) (fun q => absurd hc q)
theorem s_icmp_eqB {x y : Int32} {off : Int} {tgt : Nat} (hd : decode M.2.1 pc = .ok (.if_icmp .eq off, 3)) (ht : (pc : Int) + off = (tgt : Int)) (hc : ¬ x = y) (k : qS l g M d n mc ms ce sl cv (pc + 3) lv st p) : qS l g M d n mc ms ce sl cv pc lv (.int y :: .int x :: st) p := fun h v h' e => q_icmp_eq hd ht (fun q => absurd q hc) (fun q => k h v h' e)
theorem s_if_ne {x : Int32} {off : Int} {tgt : Nat} (hd : decode M.2.1 pc = .ok (.ifCond .ne off, 3)) (ht : (pc : Int) + off = (tgt : Int)) (k1 : x = 0 → qS l g M d n mc ms ce sl cv (pc + 3) lv st p1) (k2 : ¬ x = 0 → qS l g M d n mc ms ce sl cv tgt lv st p2) : qS l g M d n mc ms ce sl cv pc lv (.int x :: st) (if x = 0 then p1 else p2) := fun h v h' e => q_if_ne hd ht (fun q => k2 q h v h' (by rw [if_neg q] at e; exact e)) (fun q => k1 q h v h' (by rw [if_pos q] at e; exact e))
theorem s_if_neA {x : Int32} {off : Int} {tgt : Nat} (hd : decode M.2.1 pc = .ok (.ifCond .ne off, 3)) (ht : (pc : Int) + off = (tgt : Int)) (hc : x = 0) (k : qS l g M d n mc ms ce sl cv (pc + 3) lv st p) : qS l g M d n mc ms ce sl cv pc lv (.int x :: st) p := fun h v h' e => q_if_ne hd ht (fun q => absurd hc q) (fun q => k h v h' e)
theorem s_if_neB {x : Int32} {off : Int} {tgt : Nat} (hd : decode M.2.1 pc = .ok (.ifCond .ne off, 3)) (ht : (pc : Int) + off = (tgt : Int)) (hc : ¬ x = 0) (k : qS l g M d n mc ms ce sl cv tgt lv st p) : qS l g M d n mc ms ce sl cv pc lv (.int x :: st) p := fun h v h' e => q_if_ne hd ht (fun q => k h v h' e) (fun q => absurd q hc)
theorem s_icmp_ne {x y : Int32} {off : Int} {tgt : Nat} (hd : decode M.2.1 pc = .ok (.if_icmp .ne off, 3)) (ht : (pc : Int) + off = (tgt : Int)) (k1 : x = y → qS l g M d n mc ms ce sl cv (pc + 3) lv st p1) (k2 : ¬ x = y → qS l g M d n mc ms ce sl cv tgt lv st p2) : qS l g M d n mc ms ce sl cv pc lv (.int y :: .int x :: st) (if x = y then p1 else p2) := fun h v h' e => q_icmp_ne hd ht (fun q => k2 q h v h' (by rw [if_neg q] at e; exact e)) (fun q => k1 q h v h' (by rw [if_pos q] at e; exact e))
theorem s_icmp_neA {x y : Int32} {off : Int} {tgt : Nat} (hd : decode M.2.1 pc = .ok (.if_icmp .ne off, 3)) (ht : (pc : Int) + off = (tgt : Int)) (hc : x = y) (k : qS l g M d n mc ms ce sl cv (pc + 3) lv st p) : qS l g M d n mc ms ce sl cv pc lv (.int y :: .int x :: st) p := fun h v h' e => q_icmp_ne hd ht (fun q => absurd hc q) (fun q => k h v h' e)
theorem s_icmp_neB {x y : Int32} {off : Int} {tgt : Nat} (hd : decode M.2.1 pc = .ok (.if_icmp .ne off, 3)) (ht : (pc : Int) + off = (tgt : Int)) (hc : ¬ x = y) (k : qS l g M d n mc ms ce sl cv tgt lv st p) : qS l g M d n mc ms ce sl cv pc lv (.int y :: .int x :: st) p := fun h v h' e => q_icmp_ne hd ht (fun q => k h v h' e) (fun q => absurd q hc)
theorem s_if_lt {x : Int32} {off : Int} {tgt : Nat} (hd : decode M.2.1 pc = .ok (.ifCond .lt off, 3)) (ht : (pc : Int) + off = (tgt : Int)) (k1 : x < 0 → qS l g M d n mc ms ce sl cv tgt lv st p1) (k2 : ¬ x < 0 → qS l g M d n mc ms ce sl cv (pc + 3) lv st p2) : qS l g M d n mc ms ce sl cv pc lv (.int x :: st) (if x < 0 then p1 else p2) := fun h v h' e => q_if_lt hd ht (fun q => k1 q h v h' (by rw [if_pos q] at e; exact e)) (fun q => k2 q h v h' (by rw [if_neg q] at e; exact e))
theorem s_if_ltA {x : Int32} {off : Int} {tgt : Nat} (hd : decode M.2.1 pc = .ok (.ifCond .lt off, 3)) (ht : (pc : Int) + off = (tgt : Int)) (hc : x < 0) (k : qS l g M d n mc ms ce sl cv tgt lv st p) : qS l g M d n mc ms ce sl cv pc lv (.int x :: st) p := fun h v h' e => q_if_lt hd ht (fun q => k h v h' e) (fun q => absurd hc q)
theorem s_if_ltB {x : Int32} {off : Int} {tgt : Nat} (hd : decode M.2.1 pc = .ok (.ifCond .lt off, 3)) (ht : (pc : Int) + off = (tgt : Int)) (hc : ¬ x < 0) (k : qS l g M d n mc ms ce sl cv (pc + 3) lv st p) : qS l g M d n mc ms ce sl cv pc lv (.int x :: st) p := fun h v h' e => q_if_lt hd ht (fun q => absurd q hc) (fun q => k h v h' e)
theorem s_icmp_lt {x y : Int32} {off : Int} {tgt : Nat} (hd : decode M.2.1 pc = .ok (.if_icmp .lt off, 3)) (ht : (pc : Int) + off = (tgt : Int)) (k1 : x < y → qS l g M d n mc ms ce sl cv tgt lv st p1) (k2 : ¬ x < y → qS l g M d n mc ms ce sl cv (pc + 3) lv st p2) : qS l g M d n mc ms ce sl cv pc lv (.int y :: .int x :: st) (if x < y then p1 else p2) := fun h v h' e => q_icmp_lt hd ht (fun q => k1 q h v h' (by rw [if_pos q] at e; exact e)) (fun q => k2 q h v h' (by rw [if_neg q] at e; exact e))
theorem s_icmp_ltA {x y : Int32} {off : Int} {tgt : Nat} (hd : decode M.2.1 pc = .ok (.if_icmp .lt off, 3)) (ht : (pc : Int) + off = (tgt : Int)) (hc : x < y) (k : qS l g M d n mc ms ce sl cv tgt lv st p) : qS l g M d n mc ms ce sl cv pc lv (.int y :: .int x :: st) p := fun h v h' e => q_icmp_lt hd ht (fun q => k h v h' e) (fun q => absurd hc q)
theorem s_icmp_ltB {x y : Int32} {off : Int} {tgt : Nat} (hd : decode M.2.1 pc = .ok (.if_icmp .lt off, 3)) (ht : (pc : Int) + off = (tgt : Int)) (hc : ¬ x < y) (k : qS l g M d n mc ms ce sl cv (pc + 3) lv st p) : qS l g M d n mc ms ce sl cv pc lv (.int y :: .int x :: st) p := fun h v h' e => q_icmp_lt hd ht (fun q => absurd q hc) (fun q => k h v h' e)
theorem s_if_ge {x : Int32} {off : Int} {tgt : Nat} (hd : decode M.2.1 pc = .ok (.ifCond .ge off, 3)) (ht : (pc : Int) + off = (tgt : Int)) (k1 : 0 ≤ x → qS l g M d n mc ms ce sl cv tgt lv st p1) (k2 : ¬ 0 ≤ x → qS l g M d n mc ms ce sl cv (pc + 3) lv st p2) : qS l g M d n mc ms ce sl cv pc lv (.int x :: st) (if 0 ≤ x then p1 else p2) := fun h v h' e => q_if_ge hd ht (fun q => k1 q h v h' (by rw [if_pos q] at e; exact e)) (fun q => k2 q h v h' (by rw [if_neg q] at e; exact e))
theorem s_if_geA {x : Int32} {off : Int} {tgt : Nat} (hd : decode M.2.1 pc = .ok (.ifCond .ge off, 3)) (ht : (pc : Int) + off = (tgt : Int)) (hc : 0 ≤ x) (k : qS l g M d n mc ms ce sl cv tgt lv st p) : qS l g M d n mc ms ce sl cv pc lv (.int x :: st) p := fun h v h' e => q_if_ge hd ht (fun q => k h v h' e) (fun q => absurd hc q)
theorem s_if_geB {x : Int32} {off : Int} {tgt : Nat} (hd : decode M.2.1 pc = .ok (.ifCond .ge off, 3)) (ht : (pc : Int) + off = (tgt : Int)) (hc : ¬ 0 ≤ x) (k : qS l g M d n mc ms ce sl cv (pc + 3) lv st p) : qS l g M d n mc ms ce sl cv pc lv (.int x :: st) p := fun h v h' e => q_if_ge hd ht (fun q => absurd q hc) (fun q => k h v h' e)
theorem s_icmp_ge {x y : Int32} {off : Int} {tgt : Nat} (hd : decode M.2.1 pc = .ok (.if_icmp .ge off, 3)) (ht : (pc : Int) + off = (tgt : Int)) (k1 : y ≤ x → qS l g M d n mc ms ce sl cv tgt lv st p1) (k2 : ¬ y ≤ x → qS l g M d n mc ms ce sl cv (pc + 3) lv st p2) : qS l g M d n mc ms ce sl cv pc lv (.int y :: .int x :: st) (if y ≤ x then p1 else p2) := fun h v h' e => q_icmp_ge hd ht (fun q => k1 q h v h' (by rw [if_pos q] at e; exact e)) (fun q => k2 q h v h' (by rw [if_neg q] at e; exact e))
theorem s_icmp_geA {x y : Int32} {off : Int} {tgt : Nat} (hd : decode M.2.1 pc = .ok (.if_icmp .ge off, 3)) (ht : (pc : Int) + off = (tgt : Int)) (hc : y ≤ x) (k : qS l g M d n mc ms ce sl cv tgt lv st p) : qS l g M d n mc ms ce sl cv pc lv (.int y :: .int x :: st) p := fun h v h' e => q_icmp_ge hd ht (fun q => k h v h' e) (fun q => absurd hc q)
theorem s_icmp_geB {x y : Int32} {off : Int} {tgt : Nat} (hd : decode M.2.1 pc = .ok (.if_icmp .ge off, 3)) (ht : (pc : Int) + off = (tgt : Int)) (hc : ¬ y ≤ x) (k : qS l g M d n mc ms ce sl cv (pc + 3) lv st p) : qS l g M d n mc ms ce sl cv pc lv (.int y :: .int x :: st) p := fun h v h' e => q_icmp_ge hd ht (fun q => absurd q hc) (fun q => k h v h' e)
theorem s_if_gt {x : Int32} {off : Int} {tgt : Nat} (hd : decode M.2.1 pc = .ok (.ifCond .gt off, 3)) (ht : (pc : Int) + off = (tgt : Int)) (k1 : 0 < x → qS l g M d n mc ms ce sl cv tgt lv st p1) (k2 : ¬ 0 < x → qS l g M d n mc ms ce sl cv (pc + 3) lv st p2) : qS l g M d n mc ms ce sl cv pc lv (.int x :: st) (if 0 < x then p1 else p2) := fun h v h' e => q_if_gt hd ht (fun q => k1 q h v h' (by rw [if_pos q] at e; exact e)) (fun q => k2 q h v h' (by rw [if_neg q] at e; exact e))
theorem s_if_gtA {x : Int32} {off : Int} {tgt : Nat} (hd : decode M.2.1 pc = .ok (.ifCond .gt off, 3)) (ht : (pc : Int) + off = (tgt : Int)) (hc : 0 < x) (k : qS l g M d n mc ms ce sl cv tgt lv st p) : qS l g M d n mc ms ce sl cv pc lv (.int x :: st) p := fun h v h' e => q_if_gt hd ht (fun q => k h v h' e) (fun q => absurd hc q)
theorem s_if_gtB {x : Int32} {off : Int} {tgt : Nat} (hd : decode M.2.1 pc = .ok (.ifCond .gt off, 3)) (ht : (pc : Int) + off = (tgt : Int)) (hc : ¬ 0 < x) (k : qS l g M d n mc ms ce sl cv (pc + 3) lv st p) : qS l g M d n mc ms ce sl cv pc lv (.int x :: st) p := fun h v h' e => q_if_gt hd ht (fun q => absurd q hc) (fun q => k h v h' e)
theorem s_icmp_gt {x y : Int32} {off : Int} {tgt : Nat} (hd : decode M.2.1 pc = .ok (.if_icmp .gt off, 3)) (ht : (pc : Int) + off = (tgt : Int)) (k1 : y < x → qS l g M d n mc ms ce sl cv tgt lv st p1) (k2 : ¬ y < x → qS l g M d n mc ms ce sl cv (pc + 3) lv st p2) : qS l g M d n mc ms ce sl cv pc lv (.int y :: .int x :: st) (if y < x then p1 else p2) := fun h v h' e => q_icmp_gt hd ht (fun q => k1 q h v h' (by rw [if_pos q] at e; exact e)) (fun q => k2 q h v h' (by rw [if_neg q] at e; exact e))
theorem s_icmp_gtA {x y : Int32} {off : Int} {tgt : Nat} (hd : decode M.2.1 pc = .ok (.if_icmp .gt off, 3)) (ht : (pc : Int) + off = (tgt : Int)) (hc : y < x) (k : qS l g M d n mc ms ce sl cv tgt lv st p) : qS l g M d n mc ms ce sl cv pc lv (.int y :: .int x :: st) p := fun h v h' e => q_icmp_gt hd ht (fun q => k h v h' e) (fun q => absurd hc q)
theorem s_icmp_gtB {x y : Int32} {off : Int} {tgt : Nat} (hd : decode M.2.1 pc = .ok (.if_icmp .gt off, 3)) (ht : (pc : Int) + off = (tgt : Int)) (hc : ¬ y < x) (k : qS l g M d n mc ms ce sl cv (pc + 3) lv st p) : qS l g M d n mc ms ce sl cv pc lv (.int y :: .int x :: st) p := fun h v h' e => q_icmp_gt hd ht (fun q => absurd q hc) (fun q => k h v h' e)
theorem s_if_le {x : Int32} {off : Int} {tgt : Nat} (hd : decode M.2.1 pc = .ok (.ifCond .le off, 3)) (ht : (pc : Int) + off = (tgt : Int)) (k1 : x ≤ 0 → qS l g M d n mc ms ce sl cv tgt lv st p1) (k2 : ¬ x ≤ 0 → qS l g M d n mc ms ce sl cv (pc + 3) lv st p2) : qS l g M d n mc ms ce sl cv pc lv (.int x :: st) (if x ≤ 0 then p1 else p2) := fun h v h' e => q_if_le hd ht (fun q => k1 q h v h' (by rw [if_pos q] at e; exact e)) (fun q => k2 q h v h' (by rw [if_neg q] at e; exact e))
theorem s_if_leA {x : Int32} {off : Int} {tgt : Nat} (hd : decode M.2.1 pc = .ok (.ifCond .le off, 3)) (ht : (pc : Int) + off = (tgt : Int)) (hc : x ≤ 0) (k : qS l g M d n mc ms ce sl cv tgt lv st p) : qS l g M d n mc ms ce sl cv pc lv (.int x :: st) p := fun h v h' e => q_if_le hd ht (fun q => k h v h' e) (fun q => absurd hc q)
theorem s_if_leB {x : Int32} {off : Int} {tgt : Nat} (hd : decode M.2.1 pc = .ok (.ifCond .le off, 3)) (ht : (pc : Int) + off = (tgt : Int)) (hc : ¬ x ≤ 0) (k : qS l g M d n mc ms ce sl cv (pc + 3) lv st p) : qS l g M d n mc ms ce sl cv pc lv (.int x :: st) p := fun h v h' e => q_if_le hd ht (fun q => absurd q hc) (fun q => k h v h' e)
theorem s_icmp_le {x y : Int32} {off : Int} {tgt : Nat} (hd : decode M.2.1 pc = .ok (.if_icmp .le off, 3)) (ht : (pc : Int) + off = (tgt : Int)) (k1 : x ≤ y → qS l g M d n mc ms ce sl cv tgt lv st p1) (k2 : ¬ x ≤ y → qS l g M d n mc ms ce sl cv (pc + 3) lv st p2) : qS l g M d n mc ms ce sl cv pc lv (.int y :: .int x :: st) (if x ≤ y then p1 else p2) := fun h v h' e => q_icmp_le hd ht (fun q => k1 q h v h' (by rw [if_pos q] at e; exact e)) (fun q => k2 q h v h' (by rw [if_neg q] at e; exact e))
theorem s_icmp_leA {x y : Int32} {off : Int} {tgt : Nat} (hd : decode M.2.1 pc = .ok (.if_icmp .le off, 3)) (ht : (pc : Int) + off = (tgt : Int)) (hc : x ≤ y) (k : qS l g M d n mc ms ce sl cv tgt lv st p) : qS l g M d n mc ms ce sl cv pc lv (.int y :: .int x :: st) p := fun h v h' e => q_icmp_le hd ht (fun q => k h v h' e) (fun q => absurd hc q)
theorem s_icmp_leB {x y : Int32} {off : Int} {tgt : Nat} (hd : decode M.2.1 pc = .ok (.if_icmp .le off, 3)) (ht : (pc : Int) + off = (tgt : Int)) (hc : ¬ x ≤ y) (k : qS l g M d n mc ms ce sl cv (pc + 3) lv st p) : qS l g M d n mc ms ce sl cv pc lv (.int y :: .int x :: st) p := fun h v h' e => q_icmp_le hd ht (fun q => absurd q hc) (fun q => k h v h' e)
theorem s_case {c : Prop} [Decidable c] (k1 : c → qS l g M d n mc ms ce sl cv pc lv st p1) (k2 : ¬ c → qS l g M d n mc ms ce sl cv pc lv st p2) : qS l g M d n mc ms ce sl cv pc lv st (if c then p1 else p2) := fun h v h' e => by
  by_cases q : c
  · rw [if_pos q] at e; exact k1 q h v h' e
  · rw [if_neg q] at e; exact k2 q h v h' e
theorem s_tableOut {dflt lo hi : Int} {offs : Array Int} {len : Nat} {x : Int32} {tgt : Nat} (hd : decode M.2.1 pc = .ok (.tableswitch dflt lo hi offs, len)) (hx : x.toInt < lo ∨ hi < x.toInt) (ht : (pc : Int) + dflt = (tgt : Int)) (k : qS l g M d n mc ms ce sl cv tgt lv st p) : qS l g M d n mc ms ce sl cv pc lv (.int x :: st) p := fun h v h' e => q_tableOut hd hx ht (k h v h' e)
theorem s_tableIn {dflt lo hi : Int} {offs : Array Int} {len : Nat} {x y : Int32} {off : Int} {tgt : Nat} (hd : decode M.2.1 pc = .ok (.tableswitch dflt lo hi offs, len)) (hx : x = y) (h1 : ¬ y.toInt < lo) (h2 : ¬ hi < y.toInt) (ho : offs[(y.toInt - lo).toNat]? = some off) (ht : (pc : Int) + off = (tgt : Int)) (k : qS l g M d n mc ms ce sl cv tgt lv st p) : qS l g M d n mc ms ce sl cv pc lv (.int x :: st) p := fun h v h' e => q_tableIn hd (by rw [hx]; exact h1) (by rw [hx]; exact h2) (by rw [hx]; exact ho) ht (k h v h' e)
theorem s_lookup {dflt : Int} {ps : Array (Int × Int)} {len : Nat} {x : Int32} {off : Int} {tgt : Nat} (hd : decode M.2.1 pc = .ok (.lookupswitch dflt ps, len)) (hp : (ps.toList.zip (ps.toList.drop 1)).all (fun (a, next) => a.1 < next.1) = true) (ho : Op.lookupswitch.offset ps.toList dflt x.toInt = off) (ht : (pc : Int) + off = (tgt : Int)) (k : qS l g M d n mc ms ce sl cv tgt lv st p) : qS l g M d n mc ms ce sl cv pc lv (.int x :: st) p := fun h v h' e => q_lookup hd hp ho ht (k h v h' e)
theorem s_gI {idx a ci k : Nat} {ty : FieldType} {fin : Bool} {kk : Int32 → qP α} (hd : decode M.2.1 pc = .ok (.getfield idx, 3)) (hw : okF M.1.cls idx ci k ty fin) (hk : ∀ x, qS l g M d n mc ms ce sl cv (pc + 3) lv (.int x :: st) (kk x)) : qS l g M d n mc ms ce sl cv pc lv (.ref a :: st) (qb (gI ci a k) kk) := fun h v h' e => by
  obtain ⟨x, h1, e1, e2⟩ := qb_some e
  obtain ⟨fs, a1, a2, rfl⟩ := gI_some e1
  exact q_get hd hw a1 a2 (hk x h1 v h' e2)
theorem s_gL {idx a ci k : Nat} {ty : FieldType} {fin : Bool} {kk : Int64 → qP α} (hd : decode M.2.1 pc = .ok (.getfield idx, 3)) (hw : okF M.1.cls idx ci k ty fin) (hk : ∀ x, qS l g M d n mc ms ce sl cv (pc + 3) lv (.long x :: st) (kk x)) : qS l g M d n mc ms ce sl cv pc lv (.ref a :: st) (qb (gL ci a k) kk) := fun h v h' e => by
  obtain ⟨x, h1, e1, e2⟩ := qb_some e
  obtain ⟨fs, a1, a2, rfl⟩ := gL_some e1
  exact q_get hd hw a1 a2 (hk x h1 v h' e2)
theorem s_gR {idx a ci k : Nat} {ty : FieldType} {fin : Bool} {kk : Nat → qP α} (hd : decode M.2.1 pc = .ok (.getfield idx, 3)) (hw : okF M.1.cls idx ci k ty fin) (hk : ∀ x, qS l g M d n mc ms ce sl cv (pc + 3) lv (.ref x :: st) (kk x)) : qS l g M d n mc ms ce sl cv pc lv (.ref a :: st) (qb (gR ci a k) kk) := fun h v h' e => by
  obtain ⟨x, h1, e1, e2⟩ := qb_some e
  obtain ⟨fs, a1, a2, rfl⟩ := gR_some e1
  exact q_get hd hw a1 a2 (hk x h1 v h' e2)
theorem s_put {idx a ci k : Nat} {ty : FieldType} {w : Value} {kk : Unit → qP α} (hd : decode M.2.1 pc = .ok (.putfield idx, 3)) (hw : okF M.1.cls idx ci k ty false) (hn : narrow ty w = w) (hf : fits ty w = true) (hk : qS l g M d n mc ms ce sl cv (pc + 3) lv st (kk ())) : qS l g M d n mc ms ce sl cv pc lv (w :: .ref a :: st) (qb (pV ci a k w) kk) := fun h v h' e => by
  obtain ⟨x, h1, e1, e2⟩ := qb_some e
  obtain ⟨fs, a1, a2, rfl⟩ := pV_some e1
  exact q_put hd hw a1 a2 hn hf (hk _ v h' e2)
/-- a boolean field: the value is looked at -/
theorem s_putZ {idx a ci k : Nat} {w : Int32} {kk : Unit → qP α} (hd : decode M.2.1 pc = .ok (.putfield idx, 3)) (hw : okF M.1.cls idx ci k .boolean false) (hk : qS l g M d n mc ms ce sl cv (pc + 3) lv st (kk ())) : qS l g M d n mc ms ce sl cv pc lv (.int w :: .ref a :: st) (qgd (w = 0 ∨ w = 1) (qb (pV ci a k (.int w)) kk)) := fun h v h' e => by
  unfold qgd at e
  split at e
  case isFalse => cases e
  case isTrue hz =>
    refine s_put hd hw ?_ ?_ hk h v h' e
    · rcases hz with rfl | rfl <;> decide
    · rcases hz with rfl | rfl <;> decide
theorem s_putF {idx a ci k : Nat} {ty : FieldType} {w : Value} {kk : Unit → qP α} (hd : decode M.2.1 pc = .ok (.putfield idx, 3)) (hw : okF M.1.cls idx ci k ty true) (hin : M.1.name = "<init>") (hown : vwCl[ci]?.map (fun q => q.1) = some M.1.cls) (hn : narrow ty w = w) (hf : fits ty w = true) (hk : qS l g M d n mc ms ce sl cv (pc + 3) lv st (kk ())) : qS l g M d n mc ms ce sl cv pc lv (w :: .ref a :: st) (qb (pV ci a k w) kk) := fun h v h' e => by
  obtain ⟨x, h1, e1, e2⟩ := qb_some e
  obtain ⟨fs, a1, a2, rfl⟩ := pV_some e1
  exact q_putF hd hw hin hown a1 a2 hn hf (hk _ v h' e2)
theorem s_aI {a : Nat} {i : Int32} {kk : Int32 → qP α} (hd : decode M.2.1 pc = .ok (.iaload, 1)) (hk : ∀ x, qS l g M d n mc ms ce sl cv (pc + 1) lv (.int x :: st) (kk x)) : qS l g M d n mc ms ce sl cv pc lv (.int i :: .ref a :: st) (qb (aI a i) kk) := fun h v h' e => by
  obtain ⟨x, h1, e1, e2⟩ := qb_some e
  obtain ⟨N, f, a1, a2, rfl, rfl⟩ := aI_some e1
  exact q_iaload hd a1 a2 (hk _ _ v h' e2)
theorem s_aZ {a : Nat} {i : Int32} {kk : Int32 → qP α} (hd : decode M.2.1 pc = .ok (.baload, 1)) (hk : ∀ x, qS l g M d n mc ms ce sl cv (pc + 1) lv (.int x :: st) (kk x)) : qS l g M d n mc ms ce sl cv pc lv (.int i :: .ref a :: st) (qb (aZ a i) kk) := fun h v h' e => by
  obtain ⟨x, h1, e1, e2⟩ := qb_some e
  obtain ⟨N, f, a1, a2, rfl, rfl⟩ := aZ_some e1
  exact q_baload hd a1 a2 (hk _ _ v h' e2)
theorem s_sI {a : Nat} {i x : Int32} {kk : Unit → qP α} (hd : decode M.2.1 pc = .ok (.iastore, 1)) (hk : qS l g M d n mc ms ce sl cv (pc + 1) lv st (kk ())) : qS l g M d n mc ms ce sl cv pc lv (.int x :: .int i :: .ref a :: st) (qb (sI a i x) kk) := fun h v h' e => by
  obtain ⟨u, h1, e1, e2⟩ := qb_some e
  obtain ⟨N, f, a1, a2, rfl⟩ := sI_some e1
  exact q_iastore hd a1 a2 (hk _ v h' e2)
theorem s_sZ {a : Nat} {i x : Int32} {kk : Unit → qP α} (hd : decode M.2.1 pc = .ok (.bastore, 1)) (hk : qS l g M d n mc ms ce sl cv (pc + 1) lv st (kk ())) : qS l g M d n mc ms ce sl cv pc lv (.int x :: .int i :: .ref a :: st) (qb (sZ a i x) kk) := fun h v h' e => by
  obtain ⟨u, h1, e1, e2⟩ := qb_some e
  obtain ⟨N, f, a1, a2, rfl⟩ := sZ_some e1
  exact q_bastore hd a1 a2 (hk _ v h' e2)
/-- a row's reference, used at once (null: the program fails) -/
theorem s_aR {t a : Nat} {i : Int32} {kk : Nat → qP α} (ht : t < 3) (hd : decode M.2.1 pc = .ok (.aaload, 1)) (hk : ∀ x, qS l g M d n mc ms ce sl cv (pc + 1) lv (.ref x :: st) (kk x)) : qS l g M d n mc ms ce sl cv pc lv (.int i :: .ref a :: st) (qb (aQ t a i) fun y => qb (qso y) kk) := fun h v h' e => by
  obtain ⟨x, h1, e1, e2⟩ := qb_some e
  obtain ⟨N, f, a1, a2, ex, rfl⟩ := aQ_some e1
  obtain ⟨y, h2, e3, e4⟩ := qb_some e2
  cases x with
  | none => cases e3
  | some z =>
    cases e3
    have hkk := hk y h1 v h' e4
    rcases (show t = 2 ∨ t < 2 by omega) with rfl | h2
    · exact q_aaload2 hd a1 a2 (by rw [← ex]; exact hkk)
    · exact q_aaload h2 hd a1 a2 (by rw [← ex]; exact hkk)
/-- a row's reference against null -/
theorem s_aN {t a : Nat} {i : Int32} {off : Int} {tgt : Nat} {k1 : qP α} {k2 : Nat → qP α} (ht : t < 3) (hd : decode M.2.1 pc = .ok (.aaload, 1)) (hd2 : decode M.2.1 (pc + 1) = .ok (.ifnonnull off, 3)) (htg : ((pc + 1 : Nat) : Int) + off = (tgt : Int)) (hk1 : qS l g M d n mc ms ce sl cv (pc + 1 + 3) lv st k1) (hk2 : ∀ x, qS l g M d n mc ms ce sl cv tgt lv st (k2 x)) : qS l g M d n mc ms ce sl cv pc lv (.int i :: .ref a :: st) (qb (aQ t a i) fun y => qmo y k1 k2) := fun h v h' e => by
  obtain ⟨x, h1, e1, e2⟩ := qb_some e
  obtain ⟨N, f, a1, a2, ex, rfl⟩ := aQ_some e1
  have key : qV l g M d n mc ms ce sl (qz g n mc ms (fun x y => x = cv v ∧ y = h')) (pc + 1) lv (va_rf (f i.toNatClampNeg) :: st) h1 := by
    rw [← ex]
    cases x with
    | none => exact q_ifnonnullN hd2 (hk1 h1 v h' e2)
    | some z => exact q_ifnonnull hd2 htg (hk2 z h1 v h' e2)
  rcases (show t = 2 ∨ t < 2 by omega) with rfl | h2
  · exact q_aaload2 hd a1 a2 key
  · exact q_aaload h2 hd a1 a2 key
theorem s_aL {a : Nat} {kk : Int32 → qP α} (hd : decode M.2.1 pc = .ok (.arraylength, 1)) (hk : ∀ x, qS l g M d n mc ms ce sl cv (pc + 1) lv (.int x :: st) (kk x)) : qS l g M d n mc ms ce sl cv pc lv (.ref a :: st) (qb (aL a) kk) := fun h v h' e => by
  obtain ⟨x, h1, e1, e2⟩ := qb_some e
  unfold aL at e1
  split at e1
  case h_1 r hr =>
    split at e1
    case isTrue hc => cases e1; exact q_alen (t := 0) (by decide) hd (by rw [hr, ← hc]) (hk _ _ v h' e2)
    case isFalse => cases e1
  case h_2 r hr =>
    split at e1
    case isTrue hc => cases e1; exact q_alenQ hc hd hr (hk _ _ v h' e2)
    case isFalse => cases e1
  case h_3 => cases e1
theorem s_new {idx ci N : Nat} {fs : List Value} {kk : Nat → qP α} (hd : decode M.2.1 pc = .ok (.new idx, 3)) (hw : okN M.1.cls idx ci N fs) (hc : ce + 1 ≤ mc) (hs0 : sl + N ≤ ms) (hk : ∀ x, qS l g M d n mc ms (ce + 1) (sl + N) cv (pc + 3) lv (.ref x :: st) (kk x)) : qS l g M d n mc ms ce sl cv pc lv st (qb (qnw (.inr (.inr (ci, fs)))) kk) := fun h v h' e => by
  obtain ⟨x, h1, e1, e2⟩ := qb_some e
  unfold qnw at e1
  split at e1
  case isTrue hm => cases e1; exact q_new hd hw hm hc hs0 (hk _ _ v h' e2)
  case isFalse => cases e1
theorem s_newarray {i : Int32} {N : Nat} {kk : Nat → qP α} (hd : decode M.2.1 pc = .ok (.newarray .int, 2)) (hw : Cond.arrayClass .int ∈ lw_tbl) (hi : ¬ i < 0) (hN : i.toNatClampNeg = N) (hb : N ≤ 100000) (hc : ce + 1 ≤ mc) (hs0 : sl + N ≤ ms) (hk : ∀ x, qS l g M d n mc ms (ce + 1) (sl + N) cv (pc + 2) lv (.ref x :: st) (kk x)) : qS l g M d n mc ms ce sl cv pc lv (.int i :: st) (qb (qnw (.inl (0, N, fun _ => 0))) kk) := fun h v h' e => by
  obtain ⟨x, h1, e1, e2⟩ := qb_some e
  unfold qnw at e1
  split at e1
  case isTrue hm => cases e1; exact q_newarray hd hw hi hN hb hm hc hs0 (hk _ _ v h' e2)
  case isFalse => cases e1
theorem s_newarrayZ {i : Int32} {N : Nat} {kk : Nat → qP α} (hd : decode M.2.1 pc = .ok (.newarray .boolean, 2)) (hw : Cond.arrayClass .boolean ∈ lw_tbl) (hi : ¬ i < 0) (hN : i.toNatClampNeg = N) (hb : N ≤ 100000) (hc : ce + 1 ≤ mc) (hs0 : sl + N ≤ ms) (hk : ∀ x, qS l g M d n mc ms (ce + 1) (sl + N) cv (pc + 2) lv (.ref x :: st) (kk x)) : qS l g M d n mc ms ce sl cv pc lv (.int i :: st) (qb (qnw (.inl (1, N, fun _ => 0))) kk) := fun h v h' e => by
  obtain ⟨x, h1, e1, e2⟩ := qb_some e
  unfold qnw at e1
  split at e1
  case isTrue hm => cases e1; exact q_newarrayZ hd hw hi hN hb hm hc hs0 (hk _ _ v h' e2)
  case isFalse => cases e1
theorem s_anewarray {idx : Nat} {i : Int32} {N t : Nat} {C : String} {kk : Nat → qP α} (hd : decode M.2.1 pc = .ok (.anewarray idx, 3)) (ht : t = 0 ∧ C = RX5 ∨ t = 1 ∧ C = RX2) (hw : Cond.classLink M.1.cls idx C ∈ qtb) (hw2 : Cond.arrayOver (.object C) ∈ lw_tbl) (hi : ¬ i < 0) (hN : i.toNatClampNeg = N) (hb : N ≤ 100000) (hc : ce + 1 ≤ mc) (hs0 : sl + N ≤ ms) (hk : ∀ x, qS l g M d n mc ms (ce + 1) (sl + N) cv (pc + 3) lv (.ref x :: st) (kk x)) : qS l g M d n mc ms ce sl cv pc lv (.int i :: st) (qb (qnw (.inr (.inl (t, N, fun _ => none)))) kk) := fun h v h' e => by
  obtain ⟨x, h1, e1, e2⟩ := qb_some e
  unfold qnw at e1
  split at e1
  case isTrue hm => cases e1; exact q_anewarray hd ht hw hw2 hi hN hb hm hc hs0 (hk _ _ v h' e2)
  case isFalse => cases e1
theorem s_mna {idx : Nat} {i k : Int32} {N K : Nat} {kk : Nat → qP α} (hd : decode M.2.1 pc = .ok (.multianewarray idx 2, 4)) (w1 : Cond.classLink M.1.cls idx "[[I" ∈ qtb) (w2 : Cond.arrayOver (.array .int) ∈ lw_tbl) (w3 : Cond.arrayClass .int ∈ lw_tbl) (hi : ¬ i < 0) (hk : ¬ k < 0) (hN : i.toNatClampNeg = N) (hK : k.toNatClampNeg = K) (hb : N ≤ 1000) (hb2 : K ≤ 1000) (hc : ce + (1 + N) ≤ mc) (hs0 : sl + (N + N * K) ≤ ms) (hkk : ∀ x, qS l g M d n mc ms (ce + 1 + N) (sl + N + N * K) cv (pc + 4) lv (.ref x :: st) (kk x)) : qS l g M d n mc ms ce sl cv pc lv (.int k :: .int i :: st) (qb (qng N K) kk) := fun h v h' e => by
  obtain ⟨x, h1, e1, e2⟩ := qb_some e
  unfold qng at e1
  split at e1
  case isTrue hm => cases e1; exact q_mna hd w1 w2 w3 hi hk hN hK hb hb2 hm hc hs0 (hkk _ _ v h' e2)
  case isFalse => cases e1
theorem s_aastore {t a b : Nat} {i : Int32} {kk : Unit → qP α} (hw1 : ∀ c, (c = 7 ∨ c = 6 ∨ c = 1 ∨ c = 9 ∨ c = 10) → ∃ r, vwCl[c]? = some r ∧ Cond.castable r.1 RX5 ∈ qtb) (hd : decode M.2.1 pc = .ok (.aastore, 1)) (hk : qS l g M d n mc ms ce sl cv (pc + 1) lv st (kk ())) : qS l g M d n mc ms ce sl cv pc lv (.ref b :: .int i :: .ref a :: st) (qb (sQ t a i b) kk) := fun h v h' e => by
  obtain ⟨u, h1, e1, e2⟩ := qb_some e
  unfold sQ at e1
  split at e1
  case h_1 r o hr ho =>
    split at e1
    case isFalse => cases e1
    case isTrue hc =>
      split at e1
      case isTrue => cases e1
      case isFalse hi =>
        cases e1
        obtain ⟨hc1, hc2⟩ := hc
        subst hc1
        rcases hc2 with ⟨ht, hc2⟩ | ⟨ht, hc2⟩
        · have hr' : h[a]? = some (.inr (.inl (0, r.2.1, r.2.2))) := by rw [hr, ← ht]
          rw [ht] at e2
          rcases hc2 with h5 | h5
          · exact q_aastoreK (r := (RX5, TX5, 0)) hd hr' ho (by rw [h5]; rfl) (Or.inl rfl) hi (hk _ v h' e2)
          · obtain ⟨q, hq1, hq2⟩ := hw1 o.1 h5
            exact q_aastoreK (r := q) hd hr' ho hq1 (Or.inr hq2) hi (hk _ v h' e2)
        · have hr' : h[a]? = some (.inr (.inl (1, r.2.1, r.2.2))) := by rw [hr, ← ht]
          rw [ht] at e2
          exact q_aastoreL (fs := o.2) hd hr' (by rw [ho, ← hc2]) hi (hk _ v h' e2)
  case h_2 => cases e1
theorem s_ireturn {ty : FieldType} {x : Int32} (hd : decode M.2.1 pc = .ok (.ireturn, 1)) (hr : M.2.2.2 = some ty) (hv : narrow ty (.int x) = .int x) : qS l g M d n mc ms mc ms cvI pc lv [.int x] (qr x) := fun h v h' e => by
  cases e
  exact q_ireturn hd hr hv ⟨rfl, rfl⟩
theorem s_zreturn {x : Int32} (hd : decode M.2.1 pc = .ok (.ireturn, 1)) (hr : M.2.2.2 = some .boolean) : qS l g M d n mc ms mc ms cvI pc lv [.int x] (qgd (x = 0 ∨ x = 1) (qr x)) := fun h v h' e => by
  unfold qgd at e
  split at e
  case isFalse => cases e
  case isTrue hz =>
    cases e
    refine q_ireturn hd hr ?_ ⟨rfl, rfl⟩
    rcases hz with rfl | rfl <;> decide
theorem s_lreturn {x : Int64} (hd : decode M.2.1 pc = .ok (.lreturn, 1)) (hr : M.2.2.2 = some .long) : qS l g M d n mc ms mc ms cvL pc lv [.long x] (qr x) := fun h v h' e => by
  cases e
  exact q_lreturn hd hr ⟨rfl, rfl⟩
theorem s_return (hd : decode M.2.1 pc = .ok (.return_, 1)) (hr : M.2.2.2 = none) : qS l g M d n mc ms mc ms cvV pc lv [] (qr ()) := fun h v h' e => by
  cases e
  exact q_return hd hr ⟨rfl, rfl⟩
theorem s_areturn {rt : FieldType} {x : Nat} (hd : decode M.2.1 pc = .ok (.areturn, 1)) (hr : M.2.2.2 = some rt) (hrt : (∃ n, rt = .object n) ∨ ∃ t, rt = .array t) : qS l g M d n mc ms mc ms cvR pc lv [.ref x] (qr x) := fun h v h' e => by
  cases e
  exact q_areturn hd hr hrt ⟨rfl, rfl⟩
end QS
section QT
variable {α β : Type} {l : Launch} {g : qG} {M M2 : qMt} {d n mc ms ce sl mc' ms' : Nat} {cv : α → Option Value} {cv' : β → Option Value} {pc idx : Nat} {lv : List (Nat × Value)} {rest as : List Value} {f : qP β} {kk : β → qP α}
theorem s_of {p : qP α} (hp : plainName M.1.cls = true) (hL : (lg_sl as).length ≤ M.2.2.1) (k : ∀ n, qS l g M d n mc ms 0 0 cv 0 (lv_args 0 as) [] p) : qCt l g M d mc ms cv as p := fun h v h' e => q_of hp hL (k h.length h v h' e)
theorem s_static  (hd : decode M.2.1 pc = .ok (.invokestatic idx, 3)) (hw : okS M.1.cls idx M2 as.length) (hC : qCt l g M2 d mc' ms' cv' as f) (hr : (rest.map fun v => v.category).sum ≤ 8) (hf : ce + mc' ≤ mc ∧ sl + ms' ≤ ms) (hk : ∀ x, qS l g M (d + 1) n mc ms (ce + mc') (sl + ms') cv (pc + 3) lv ((cv' x).toList ++ rest) (kk x)) : qS l g M (d + 1) n mc ms ce sl cv pc lv (as.reverse ++ rest) (qb f kk) := fun h v h' e => by
  obtain ⟨x, h1, e1, e2⟩ := qb_some e
  exact q_static hd hw (hC _ x h1 e1) hr hf (fun w y hy _ => by
    obtain ⟨rfl, rfl⟩ := hy
    exact hk x _ v h' e2)
theorem s_staticN {host : String} (hd : decode M.2.1 pc = .ok (.invokestatic idx, 3)) (hw : okSN M.1.cls idx M2 as.length host) (hC : qCt l g M2 d mc' ms' cv' as f) (hr : (rest.map fun v => v.category).sum ≤ 8) (hf : ce + mc' ≤ mc ∧ sl + ms' ≤ ms) (hk : ∀ x, qS l g M (d + 1) n mc ms (ce + mc') (sl + ms') cv (pc + 3) lv ((cv' x).toList ++ rest) (kk x)) : qS l g M (d + 1) n mc ms ce sl cv pc lv (as.reverse ++ rest) (qb f kk) := fun h v h' e => by
  obtain ⟨x, h1, e1, e2⟩ := qb_some e
  exact q_staticN hd hw (hC h x h1 e1) hr hf (fun w y hy _ => by
    obtain ⟨rfl, rfl⟩ := hy
    exact hk x _ v h' e2)
theorem s_virt {a ci : Nat} (hd : decode M.2.1 pc = .ok (.invokevirtual idx, 3)) (hw : okV M.1.cls idx ci M2 as.length) (hC : qCt l g M2 d mc' ms' cv' (.ref a :: as) f) (hr : (rest.map fun v => v.category).sum ≤ 8) (hf : ce + mc' ≤ mc ∧ sl + ms' ≤ ms) (hk : ∀ x, qS l g M (d + 1) n mc ms (ce + mc') (sl + ms') cv (pc + 3) lv ((cv' x).toList ++ rest) (kk x)) : qS l g M (d + 1) n mc ms ce sl cv pc lv (as.reverse ++ .ref a :: rest) (qb (qcl ci a) fun _ => qb f kk) := fun h v h' e => by
  obtain ⟨u, h0, e0, e9⟩ := qb_some e
  obtain ⟨fs, c1, rfl⟩ := qcl_some e0
  obtain ⟨x, h1, e1, e2⟩ := qb_some e9
  exact q_virt hd hw c1 (hC _ x h1 e1) hr hf (fun w y hy _ => by
    obtain ⟨rfl, rfl⟩ := hy
    exact hk x _ v h' e2)
theorem s_init {a : Nat} (hd : decode M.2.1 pc = .ok (.invokespecial idx, 3)) (hw : okI M.1.cls idx M2 as.length) (hC : qCt l g M2 d mc' ms' cv' (.ref a :: as) f) (hr : (rest.map fun v => v.category).sum ≤ 8) (hf : ce + mc' ≤ mc ∧ sl + ms' ≤ ms) (hk : ∀ x, qS l g M (d + 1) n mc ms (ce + mc') (sl + ms') cv (pc + 3) lv ((cv' x).toList ++ rest) (kk x)) : qS l g M (d + 1) n mc ms ce sl cv pc lv (as.reverse ++ .ref a :: rest) (qb f kk) := fun h v h' e => by
  obtain ⟨x, h1, e1, e2⟩ := qb_some e
  exact q_init hd hw (hC _ x h1 e1) hr hf (fun w y hy _ => by
    obtain ⟨rfl, rfl⟩ := hy
    exact hk x _ v h' e2)
theorem s_initN {a : Nat} (hd : decode M.2.1 pc = .ok (.invokespecial idx, 3)) {host : String} (hw : okIN M.1.cls idx M2 as.length host) (hC : qCt l g M2 d mc' ms' cv' (.ref a :: as) f) (hr : (rest.map fun v => v.category).sum ≤ 8) (hf : ce + mc' ≤ mc ∧ sl + ms' ≤ ms) (hk : ∀ x, qS l g M (d + 1) n mc ms (ce + mc') (sl + ms') cv (pc + 3) lv ((cv' x).toList ++ rest) (kk x)) : qS l g M (d + 1) n mc ms ce sl cv pc lv (as.reverse ++ .ref a :: rest) (qb f kk) := fun h v h' e => by
  obtain ⟨x, h1, e1, e2⟩ := qb_some e
  exact q_initN hd hw (hC _ x h1 e1) hr hf (fun w y hy _ => by
    obtain ⟨rfl, rfl⟩ := hy
    exact hk x _ v h' e2)
theorem s_super {a : Nat} (hd : decode M.2.1 pc = .ok (.invokespecial idx, 3)) (hw : okSU M.1.cls idx M2 as.length) (hq : ∀ c, (c = 5 ∨ c = 7 ∨ c = 6 ∨ c = 1 ∨ c = 9 ∨ c = 10) → ∃ q : vw_C, vwCl[c]? = some q) (hC : qCt l g M2 d mc' ms' cv' (.ref a :: as) f) (hr : (rest.map fun v => v.category).sum ≤ 8) (hf : ce + mc' ≤ mc ∧ sl + ms' ≤ ms) (hk : ∀ x, qS l g M (d + 1) n mc ms (ce + mc') (sl + ms') cv (pc + 3) lv ((cv' x).toList ++ rest) (kk x)) : qS l g M (d + 1) n mc ms ce sl cv pc lv (as.reverse ++ .ref a :: rest) (qb (qkd a) fun c => qgd (c = 5 ∨ c = 7 ∨ c = 6 ∨ c = 1 ∨ c = 9 ∨ c = 10) (qb f kk)) := fun h v h' e => by
  obtain ⟨c, h0, e0, e9⟩ := qb_some e
  obtain ⟨fs, c1, rfl⟩ := qkd_some e0
  unfold qgd at e9
  split at e9
  case isFalse => cases e9
  rename_i hcc
  obtain ⟨q, hq1⟩ := hq c hcc
  obtain ⟨x, h1, e1, e2⟩ := qb_some e9
  exact q_super hd hw hq1 c1 (hC _ x h1 e1) hr hf (fun w y hy _ => by
    obtain ⟨rfl, rfl⟩ := hy
    exact hk x _ v h' e2)
theorem s_superI {a : Nat} (hd : decode M.2.1 pc = .ok (.invokespecial idx, 3)) {x0 : MethodName} (hw : okSI M.1.cls idx x0 M2 as.length) (hq : ∀ c, (c = 5 ∨ c = 7 ∨ c = 6 ∨ c = 1 ∨ c = 9 ∨ c = 10) → ∃ q : vw_C, vwCl[c]? = some q) (hC : qCt l g M2 d mc' ms' cv' (.ref a :: as) f) (hr : (rest.map fun v => v.category).sum ≤ 8) (hf : ce + mc' ≤ mc ∧ sl + ms' ≤ ms) (hk : ∀ x, qS l g M (d + 1) n mc ms (ce + mc') (sl + ms') cv (pc + 3) lv ((cv' x).toList ++ rest) (kk x)) : qS l g M (d + 1) n mc ms ce sl cv pc lv (as.reverse ++ .ref a :: rest) (qb (qkd a) fun c => qgd (c = 5 ∨ c = 7 ∨ c = 6 ∨ c = 1 ∨ c = 9 ∨ c = 10) (qb f kk)) := fun h v h' e => by
  obtain ⟨c, h0, e0, e9⟩ := qb_some e
  obtain ⟨fs, c1, rfl⟩ := qkd_some e0
  unfold qgd at e9
  split at e9
  case isFalse => cases e9
  rename_i hcc
  obtain ⟨q, hq1⟩ := hq c hcc
  obtain ⟨x, h1, e1, e2⟩ := qb_some e9
  exact q_superI hd hw hq1 c1 (hC _ x h1 e1) hr hf (fun w y hy _ => by
    obtain ⟨rfl, rfl⟩ := hy
    exact hk x _ v h' e2)
theorem s_staticI {f : qP Int32} {kk : Int32 → qP α} (hd : decode M.2.1 pc = .ok (.invokestatic idx, 3)) (hw : okS M.1.cls idx M2 as.length) (hC : qCt l g M2 d 0 0 cvI as f) (hr : (rest.map fun v => v.category).sum ≤ 8) (hf : ce ≤ mc ∧ sl ≤ ms) (hk : ∀ x, qS l g M (d + 1) n mc ms ce sl cv (pc + 3) lv (.int x :: rest) (kk x)) : qS l g M (d + 1) n mc ms ce sl cv pc lv (as.reverse ++ rest) (qb f kk) := s_static hd hw hC hr hf hk
theorem s_staticL {f : qP Int64} {kk : Int64 → qP α} (hd : decode M.2.1 pc = .ok (.invokestatic idx, 3)) (hw : okS M.1.cls idx M2 as.length) (hC : qCt l g M2 d 0 0 cvL as f) (hr : (rest.map fun v => v.category).sum ≤ 8) (hf : ce ≤ mc ∧ sl ≤ ms) (hk : ∀ x, qS l g M (d + 1) n mc ms ce sl cv (pc + 3) lv (.long x :: rest) (kk x)) : qS l g M (d + 1) n mc ms ce sl cv pc lv (as.reverse ++ rest) (qb f kk) := s_static hd hw hC hr hf hk
theorem s_staticR {f : qP Nat} {kk : Nat → qP α} (hd : decode M.2.1 pc = .ok (.invokestatic idx, 3)) (hw : okS M.1.cls idx M2 as.length) (hC : qCt l g M2 d 0 0 cvR as f) (hr : (rest.map fun v => v.category).sum ≤ 8) (hf : ce ≤ mc ∧ sl ≤ ms) (hk : ∀ x, qS l g M (d + 1) n mc ms ce sl cv (pc + 3) lv (.ref x :: rest) (kk x)) : qS l g M (d + 1) n mc ms ce sl cv pc lv (as.reverse ++ rest) (qb f kk) := s_static hd hw hC hr hf hk
theorem s_staticV {f : qP Unit} {kk : Unit → qP α} (hd : decode M.2.1 pc = .ok (.invokestatic idx, 3)) (hw : okS M.1.cls idx M2 as.length) (hC : qCt l g M2 d 0 0 cvV as f) (hr : (rest.map fun v => v.category).sum ≤ 8) (hf : ce ≤ mc ∧ sl ≤ ms) (hk : ∀ x, qS l g M (d + 1) n mc ms ce sl cv (pc + 3) lv (rest) (kk x)) : qS l g M (d + 1) n mc ms ce sl cv pc lv (as.reverse ++ rest) (qb f kk) := s_static hd hw hC hr hf hk
theorem s_staticNI {host : String} {f : qP Int32} {kk : Int32 → qP α} (hd : decode M.2.1 pc = .ok (.invokestatic idx, 3)) (hw : okSN M.1.cls idx M2 as.length host) (hC : qCt l g M2 d 0 0 cvI as f) (hr : (rest.map fun v => v.category).sum ≤ 8) (hf : ce ≤ mc ∧ sl ≤ ms) (hk : ∀ x, qS l g M (d + 1) n mc ms ce sl cv (pc + 3) lv (.int x :: rest) (kk x)) : qS l g M (d + 1) n mc ms ce sl cv pc lv (as.reverse ++ rest) (qb f kk) := s_staticN hd hw hC hr hf hk
theorem s_staticNL {host : String} {f : qP Int64} {kk : Int64 → qP α} (hd : decode M.2.1 pc = .ok (.invokestatic idx, 3)) (hw : okSN M.1.cls idx M2 as.length host) (hC : qCt l g M2 d 0 0 cvL as f) (hr : (rest.map fun v => v.category).sum ≤ 8) (hf : ce ≤ mc ∧ sl ≤ ms) (hk : ∀ x, qS l g M (d + 1) n mc ms ce sl cv (pc + 3) lv (.long x :: rest) (kk x)) : qS l g M (d + 1) n mc ms ce sl cv pc lv (as.reverse ++ rest) (qb f kk) := s_staticN hd hw hC hr hf hk
theorem s_staticNR {host : String} {f : qP Nat} {kk : Nat → qP α} (hd : decode M.2.1 pc = .ok (.invokestatic idx, 3)) (hw : okSN M.1.cls idx M2 as.length host) (hC : qCt l g M2 d 0 0 cvR as f) (hr : (rest.map fun v => v.category).sum ≤ 8) (hf : ce ≤ mc ∧ sl ≤ ms) (hk : ∀ x, qS l g M (d + 1) n mc ms ce sl cv (pc + 3) lv (.ref x :: rest) (kk x)) : qS l g M (d + 1) n mc ms ce sl cv pc lv (as.reverse ++ rest) (qb f kk) := s_staticN hd hw hC hr hf hk
theorem s_staticNV {host : String} {f : qP Unit} {kk : Unit → qP α} (hd : decode M.2.1 pc = .ok (.invokestatic idx, 3)) (hw : okSN M.1.cls idx M2 as.length host) (hC : qCt l g M2 d 0 0 cvV as f) (hr : (rest.map fun v => v.category).sum ≤ 8) (hf : ce ≤ mc ∧ sl ≤ ms) (hk : ∀ x, qS l g M (d + 1) n mc ms ce sl cv (pc + 3) lv (rest) (kk x)) : qS l g M (d + 1) n mc ms ce sl cv pc lv (as.reverse ++ rest) (qb f kk) := s_staticN hd hw hC hr hf hk
theorem s_virtI {a ci : Nat} {f : qP Int32} {kk : Int32 → qP α} (hd : decode M.2.1 pc = .ok (.invokevirtual idx, 3)) (hw : okV M.1.cls idx ci M2 as.length) (hC : qCt l g M2 d 0 0 cvI (.ref a :: as) f) (hr : (rest.map fun v => v.category).sum ≤ 8) (hf : ce ≤ mc ∧ sl ≤ ms) (hk : ∀ x, qS l g M (d + 1) n mc ms ce sl cv (pc + 3) lv (.int x :: rest) (kk x)) : qS l g M (d + 1) n mc ms ce sl cv pc lv (as.reverse ++ .ref a :: rest) (qb (qcl ci a) fun _ => qb f kk) := s_virt hd hw hC hr hf hk
theorem s_virtL {a ci : Nat} {f : qP Int64} {kk : Int64 → qP α} (hd : decode M.2.1 pc = .ok (.invokevirtual idx, 3)) (hw : okV M.1.cls idx ci M2 as.length) (hC : qCt l g M2 d 0 0 cvL (.ref a :: as) f) (hr : (rest.map fun v => v.category).sum ≤ 8) (hf : ce ≤ mc ∧ sl ≤ ms) (hk : ∀ x, qS l g M (d + 1) n mc ms ce sl cv (pc + 3) lv (.long x :: rest) (kk x)) : qS l g M (d + 1) n mc ms ce sl cv pc lv (as.reverse ++ .ref a :: rest) (qb (qcl ci a) fun _ => qb f kk) := s_virt hd hw hC hr hf hk
theorem s_virtR {a ci : Nat} {f : qP Nat} {kk : Nat → qP α} (hd : decode M.2.1 pc = .ok (.invokevirtual idx, 3)) (hw : okV M.1.cls idx ci M2 as.length) (hC : qCt l g M2 d 0 0 cvR (.ref a :: as) f) (hr : (rest.map fun v => v.category).sum ≤ 8) (hf : ce ≤ mc ∧ sl ≤ ms) (hk : ∀ x, qS l g M (d + 1) n mc ms ce sl cv (pc + 3) lv (.ref x :: rest) (kk x)) : qS l g M (d + 1) n mc ms ce sl cv pc lv (as.reverse ++ .ref a :: rest) (qb (qcl ci a) fun _ => qb f kk) := s_virt hd hw hC hr hf hk
theorem s_virtV {a ci : Nat} {f : qP Unit} {kk : Unit → qP α} (hd : decode M.2.1 pc = .ok (.invokevirtual idx, 3)) (hw : okV M.1.cls idx ci M2 as.length) (hC : qCt l g M2 d 0 0 cvV (.ref a :: as) f) (hr : (rest.map fun v => v.category).sum ≤ 8) (hf : ce ≤ mc ∧ sl ≤ ms) (hk : ∀ x, qS l g M (d + 1) n mc ms ce sl cv (pc + 3) lv (rest) (kk x)) : qS l g M (d + 1) n mc ms ce sl cv pc lv (as.reverse ++ .ref a :: rest) (qb (qcl ci a) fun _ => qb f kk) := s_virt hd hw hC hr hf hk
theorem s_initV {a : Nat} {f : qP Unit} {kk : Unit → qP α} (hd : decode M.2.1 pc = .ok (.invokespecial idx, 3)) (hw : okI M.1.cls idx M2 as.length) (hC : qCt l g M2 d mc' ms' cvV (.ref a :: as) f) (hr : (rest.map fun v => v.category).sum ≤ 8) (hf : ce + mc' ≤ mc ∧ sl + ms' ≤ ms) (hk : ∀ x, qS l g M (d + 1) n mc ms (ce + mc') (sl + ms') cv (pc + 3) lv rest (kk x)) : qS l g M (d + 1) n mc ms ce sl cv pc lv (as.reverse ++ .ref a :: rest) (qb f kk) := s_init hd hw hC hr hf hk
theorem s_initNV {a : Nat} {f : qP Unit} {kk : Unit → qP α} (hd : decode M.2.1 pc = .ok (.invokespecial idx, 3)) {host : String} (hw : okIN M.1.cls idx M2 as.length host) (hC : qCt l g M2 d mc' ms' cvV (.ref a :: as) f) (hr : (rest.map fun v => v.category).sum ≤ 8) (hf : ce + mc' ≤ mc ∧ sl + ms' ≤ ms) (hk : ∀ x, qS l g M (d + 1) n mc ms (ce + mc') (sl + ms') cv (pc + 3) lv rest (kk x)) : qS l g M (d + 1) n mc ms ce sl cv pc lv (as.reverse ++ .ref a :: rest) (qb f kk) := s_initN hd hw hC hr hf hk
theorem s_superC {a : Nat} {f : qP Int32} {kk : Int32 → qP α} (hd : decode M.2.1 pc = .ok (.invokespecial idx, 3)) (hw : okSU M.1.cls idx M2 as.length) (hC : qCt l g M2 d 0 0 cvI (.ref a :: as) f) (hr : (rest.map fun v => v.category).sum ≤ 8) (hf : ce ≤ mc ∧ sl ≤ ms) (hk : ∀ x, qS l g M (d + 1) n mc ms ce sl cv (pc + 3) lv (.int x :: rest) (kk x)) : qS l g M (d + 1) n mc ms ce sl cv pc lv (as.reverse ++ .ref a :: rest) (qb (qkd a) fun c => qgd (c = 5 ∨ c = 7 ∨ c = 6 ∨ c = 1 ∨ c = 9 ∨ c = 10) (qb f kk)) := s_super hd hw (fun c hc => by rcases hc with rfl | rfl | rfl | rfl | rfl | rfl <;> exact ⟨_, rfl⟩) hC hr hf hk
theorem s_superIC {a : Nat} {x0 : MethodName} {f : qP Int32} {kk : Int32 → qP α} (hd : decode M.2.1 pc = .ok (.invokespecial idx, 3)) (hw : okSI M.1.cls idx x0 M2 as.length) (hC : qCt l g M2 d 0 0 cvI (.ref a :: as) f) (hr : (rest.map fun v => v.category).sum ≤ 8) (hf : ce ≤ mc ∧ sl ≤ ms) (hk : ∀ x, qS l g M (d + 1) n mc ms ce sl cv (pc + 3) lv (.int x :: rest) (kk x)) : qS l g M (d + 1) n mc ms ce sl cv pc lv (as.reverse ++ .ref a :: rest) (qb (qkd a) fun c => qgd (c = 5 ∨ c = 7 ∨ c = 6 ∨ c = 1 ∨ c = 9 ∨ c = 10) (qb f kk)) := s_superI hd hw (fun c hc => by rcases hc with rfl | rfl | rfl | rfl | rfl | rfl <;> exact ⟨_, rfl⟩) hC hr hf hk
/-- a call on a kind of plots: what is run goes by the receiver's class -/
def qOv (l : Launch) (g : qG) (own : String) (idx d : Nat) (a : Nat) (as : List Value) (f : qP Int32) : Prop := ∀ (h : qH) (v : Int32) (h' : qH), f h = some (v, h') → ∃ (ci : Nat) (fs : List Value) (M2 : qMt) (x : MethodName) (owner : String), h[a]? = some (.inr (.inr (ci, fs))) ∧ okO own idx ci x owner M2 as.length ∧ qE l g M2 d 0 0 (.ref a :: as) h (fun x y => x = cvI v ∧ y = h')
theorem s_over {a : Nat} {f : qP Int32} {kk : Int32 → qP α} (hd : decode M.2.1 pc = .ok (.invokevirtual idx, 3)) (hC : qOv l g M.1.cls idx d a as f) (hr : (rest.map fun v => v.category).sum ≤ 8) (hf : ce ≤ mc ∧ sl ≤ ms) (hk : ∀ x, qS l g M (d + 1) n mc ms ce sl cv (pc + 3) lv (.int x :: rest) (kk x)) : qS l g M (d + 1) n mc ms ce sl cv pc lv (as.reverse ++ .ref a :: rest) (qb f kk) := fun h v h' e => by
  obtain ⟨x, h1, e1, e2⟩ := qb_some e
  obtain ⟨ci, fs, M2, y, owner, c1, hw, hE⟩ := hC h x h1 e1
  exact q_virtO hd hw c1 hE hr hf (fun w y hy _ => by
    obtain ⟨rfl, rfl⟩ := hy
    exact hk x _ v h' e2)
theorem s_objinit {p : qP α} {a : Nat} (hd : decode M.2.1 pc = .ok (.invokespecial idx, 3)) (hw : Cond.methodLink M.1.cls idx objectInit ∈ qtb) (hw2 : Cond.instanceMethod objectInit ∈ qtb) (hw3 : Cond.code objectInit ⟨#[0xb1]⟩ 1 none ∈ qtb) (hr : (rest.map fun v => v.category).sum ≤ 8) (k : qS l g M (d + 1) n mc ms ce sl cv (pc + 3) lv rest p) : qS l g M (d + 1) n mc ms ce sl cv pc lv (.ref a :: rest) p := fun h v h' e => q_objinit hd hw hw2 hw3 hr (k h v h' e)
theorem s_copy {kk : Unit → qP α} {a b : Nat} {sp dp len : Int32} (hd : decode M.2.1 pc = .ok (.invokestatic idx, 3)) (hw : Cond.methodLink M.1.cls idx arraycopyName ∈ qtb) (hw2 : Cond.native arraycopyName ∈ qtb) (hw3 : Cond.static arraycopyName ∈ qtb) (hw4 : Cond.initialized "java/lang/System" ∈ qtb) (hr : (rest.map fun v => v.category).sum ≤ 8) (k : qS l g M (d + 1) n mc ms ce sl cv (pc + 3) lv rest (kk ())) : qS l g M (d + 1) n mc ms ce sl cv pc lv (.int len :: .int dp :: .ref b :: .int sp :: .ref a :: rest) (qb (cp a sp b dp len) kk) := fun h v h' e => by
  obtain ⟨x, h1, e1, e2⟩ := qb_some e
  obtain ⟨N0, N1, f, f1, a1, a2, ⟨c1, c2, c3, c4, c5⟩, rfl⟩ := cp_some e1
  exact q_copy hd hw hw2 hw3 hw4 a1 a2 c1 c2 c3 c4 c5 hr (k _ v h' e2)
theorem s_max {p : qP α} {x y : Int32} (hd : decode M.2.1 pc = .ok (.invokestatic idx, 3)) (hw : Cond.methodLink M.1.cls idx Lib.Math.max.name ∈ qtb) (hw2 : Cond.static Lib.Math.max.name ∈ qtb) (hw3 : Cond.initialized "java/lang/Math" ∈ qtb) (hw4 : Cond.code Lib.Math.max.name Lib.Math.max.code 2 (some .int) ∈ qtb) (hr : (rest.map fun v => v.category).sum ≤ 8) (hf : ce ≤ mc ∧ sl ≤ ms) (k : qS l g M (d + 1) n mc ms ce sl cv (pc + 3) lv (.int (if x < y then y else x) :: rest) p) : qS l g M (d + 1) n mc ms ce sl cv pc lv (.int y :: .int x :: rest) p := fun h v h' e => q_max hd hw hw2 hw3 hw4 hr hf (k h v h' e)
theorem s_min {p : qP α} {x y : Int32} (hd : decode M.2.1 pc = .ok (.invokestatic idx, 3)) (hw : Cond.methodLink M.1.cls idx Lib.Math.min.name ∈ qtb) (hw2 : Cond.static Lib.Math.min.name ∈ qtb) (hw3 : Cond.initialized "java/lang/Math" ∈ qtb) (hw4 : Cond.code Lib.Math.min.name Lib.Math.min.code 2 (some .int) ∈ qtb) (hr : (rest.map fun v => v.category).sum ≤ 8) (hf : ce ≤ mc ∧ sl ≤ ms) (k : qS l g M (d + 1) n mc ms ce sl cv (pc + 3) lv (.int (if y < x then y else x) :: rest) p) : qS l g M (d + 1) n mc ms ce sl cv pc lv (.int y :: .int x :: rest) p := fun h v h' e => q_min hd hw hw2 hw3 hw4 hr hf (k h v h' e)
end QT

/-! plans, pure: rows of nights as codes, the fold over them, the bound -/
/-- what a row of m nights (code x, the first night highest) gives from the row r, so much sewn before -/
def ev (S : eS) (ok : Nat → Bool) (lf : (Nat → Nat) → Bool) : Nat → (Nat → Nat) → Nat → Nat → Option Nat
  | 0, r, s, _ => if lf r = true then some s else none
  | m + 1, r, s, x => if ok (x / 8 ^ m) = true then ev S ok lf m (nRow (S 1) (S 2) (S 0 0) r (x / 8 ^ m)) (s + (if 3 ≤ x / 8 ^ m ∧ x / 8 ^ m < 7 then nGot (S 1) (S 2) r (x / 8 ^ m) else 0)) (x % 8 ^ m) else none
theorem ev_d {S : eS} {ok : Nat → Bool} {lf : (Nat → Nat) → Bool} {m : Nat} {r : Nat → Nat} {s w y : Nat} (hy : y < 8 ^ m) : ev S ok lf (m + 1) r s (w * 8 ^ m + y) = if ok w = true then ev S ok lf m (nRow (S 1) (S 2) (S 0 0) r w) (s + (if 3 ≤ w ∧ w < 7 then nGot (S 1) (S 2) r w else 0)) y else none := by
  have h1 : (w * 8 ^ m + y) / 8 ^ m = w := by
    rw [Nat.mul_comm, Nat.mul_add_div (Nat.pow_pos (by decide)), Nat.div_eq_of_lt hy, Nat.add_zero]
  have h2 : (w * 8 ^ m + y) % 8 ^ m = y := by
    rw [Nat.mul_comm, Nat.mul_add_mod, Nat.mod_eq_of_lt hy]
  show (if ok ((w * 8 ^ m + y) / 8 ^ m) = true then _ else none) = _
  rw [h1, h2]
abbrev aC : Type := Option Nat × Nat
def upA (a : aC) (v : Option Nat) (x : Nat) : aC := match v with
  | none => a
  | some v => (match a.1 with
    | none => (some v, x)
    | some m => if m < v then (some v, x) else a)
def fl (g : Nat → Option Nat) (b : Nat) : Nat → aC → aC
  | 0, a => a
  | k + 1, a => upA (fl g b k a) (g k) (b + k)
theorem fl_add (g : Nat → Option Nat) (b : Nat) (a : aC) (j : Nat) : ∀ k, fl g b (j + k) a = fl (fun y => g (j + y)) (b + j) k (fl g b j a) := by
  intro k
  induction k with
  | zero => rfl
  | succ k ih =>
    show upA (fl g b (j + k) a) (g (j + k)) (b + (j + k)) = upA (fl (fun y => g (j + y)) (b + j) k (fl g b j a)) (g (j + k)) (b + j + k)
    rw [ih, Nat.add_assoc]
theorem fl_c {g g' : Nat → Option Nat} {b : Nat} {a : aC} : ∀ k, (∀ y, y < k → g y = g' y) → fl g b k a = fl g' b k a := by
  intro k
  induction k with
  | zero => intro _; rfl
  | succ k ih =>
    intro h
    show upA (fl g b k a) (g k) (b + k) = upA (fl g' b k a) (g' k) (b + k)
    rw [ih (fun y hy => h y (by omega)), h k (by omega)]
/-- not less than -/
def ubA (a : aC) (v : Nat) : Prop := ∃ m, a.1 = some m ∧ v ≤ m
theorem upA_ub {a : aC} {v x : Nat} : ubA (upA a (some v) x) v := by
  unfold upA
  cases e : a.1 with
  | none => exact ⟨v, rfl, Nat.le_refl _⟩
  | some m =>
    dsimp only
    split
    · exact ⟨v, rfl, Nat.le_refl _⟩
    · exact ⟨m, e, by omega⟩
theorem upA_mo {a : aC} {o : Option Nat} {x u : Nat} (h : ubA a u) : ubA (upA a o x) u := by
  cases o with
  | none => exact h
  | some v =>
    obtain ⟨m, e, hm⟩ := h
    unfold upA
    rw [e]
    dsimp only
    split
    · exact ⟨v, rfl, by omega⟩
    · exact ⟨m, e, hm⟩
theorem fl_mo {g : Nat → Option Nat} {b u : Nat} {a : aC} (h : ubA a u) : ∀ k, ubA (fl g b k a) u := by
  intro k
  induction k with
  | zero => exact h
  | succ k ih => exact upA_mo ih
theorem fl_ub {g : Nat → Option Nat} {b : Nat} {a : aC} : ∀ k x v, x < k → g x = some v → ubA (fl g b k a) v := by
  intro k
  induction k with
  | zero => intro x v hx; omega
  | succ k ih =>
    intro x v hx hg
    show ubA (upA (fl g b k a) (g k) (b + k)) v
    by_cases q : x = k
    · subst q; rw [hg]; exact upA_ub
    · exact upA_mo (ih x v (by omega) hg)
theorem upA_sk {a : aC} {v x : Nat} (h : ubA a v) : upA a (some v) x = a := by
  obtain ⟨m, e, hm⟩ := h
  unfold upA
  rw [e]
  dsimp only
  rw [if_neg (by omega)]
theorem fl_sk {g : Nat → Option Nat} {b : Nat} {a : aC} : ∀ k, (∀ x v, x < k → g x = some v → ubA a v) → fl g b k a = a := by
  intro k
  induction k with
  | zero => intro _; rfl
  | succ k ih =>
    intro h
    show upA (fl g b k a) (g k) (b + k) = a
    rw [ih (fun x v hx => h x v (by omega))]
    cases e : g k with
    | none => rfl
    | some v => exact upA_sk (h k v (by omega) e)
theorem fl_bd {g : Nat → Option Nat} {b M : Nat} {a : aC} (ha : ∀ v, a.1 = some v → v ≤ M) : ∀ k, (∀ x v, x < k → g x = some v → v ≤ M) → ∀ v, (fl g b k a).1 = some v → v ≤ M := by
  intro k
  induction k with
  | zero => intro _; exact ha
  | succ k ih =>
    intro h v hv
    have h1 := ih (fun x v hx => h x v (by omega))
    change (upA (fl g b k a) (g k) (b + k)).1 = some v at hv
    cases e : g k with
    | none => rw [e] at hv; exact h1 v hv
    | some u =>
      rw [e] at hv
      have h2 := h k u (by omega) e
      unfold upA at hv
      cases e2 : (fl g b k a).1 with
      | none => rw [e2] at hv; cases hv; exact h2
      | some m =>
        rw [e2] at hv
        dsimp only at hv
        split at hv
        · cases hv; exact h2
        · exact h1 v hv
theorem fl_ne {g : Nat → Option Nat} {b : Nat} {a : aC} (h : a.1 ≠ none) : ∀ k, (fl g b k a).1 ≠ none := by
  intro k
  cases e : a.1 with
  | none => exact absurd e h
  | some u =>
    obtain ⟨m, e2, -⟩ := fl_mo (g := g) (b := b) (a := a) (u := u) ⟨u, e, Nat.le_refl _⟩ k
    rw [e2]; exact fun c => by cases c
/-- a night splits the codes -/
theorem fl_d {S : eS} {ok : Nat → Bool} {lf : (Nat → Nat) → Bool} {m : Nat} {r : Nat → Nat} {s P w : Nat} {a : aC} : fl (ev S ok lf (m + 1) r s) (P * 8 ^ (m + 1)) ((w + 1) * 8 ^ m) a = (if ok w = true then fl (ev S ok lf m (nRow (S 1) (S 2) (S 0 0) r w) (s + (if 3 ≤ w ∧ w < 7 then nGot (S 1) (S 2) r w else 0))) ((P * 8 + w) * 8 ^ m) (8 ^ m) (fl (ev S ok lf (m + 1) r s) (P * 8 ^ (m + 1)) (w * 8 ^ m) a) else fl (ev S ok lf (m + 1) r s) (P * 8 ^ (m + 1)) (w * 8 ^ m) a) := by
  rw [Nat.succ_mul, fl_add]
  have e1 : P * 8 ^ (m + 1) + w * 8 ^ m = (P * 8 + w) * 8 ^ m := by rw [Nat.pow_succ', ← Nat.mul_assoc, ← Nat.add_mul]
  rw [e1]
  by_cases q : ok w = true
  · rw [if_pos q]
    exact fl_c _ (fun y hy => by rw [ev_d hy, if_pos q])
  · rw [if_neg q]
    exact fl_sk _ (fun x v hx e => by rw [ev_d hx, if_neg q] at e; cases e)
/-! idle nights -/
theorem idle_mid {K L r : Nat → Nat} {p w : Nat} (hp : p ≤ 3) (hw : w < 8) (h7 : nRow K L p r w 7 = r 7) (h8 : nRow K L p r w 8 = r 8) : (∀ j, nMid K L r w j = r j) ∧ (3 ≤ w ∧ w < 7 → nGot K L r w = 0) := by
  have e7 : nRow K L p r w 7 = nMid K L r w 7 := by unfold nRow nGrw; rw [if_neg (by omega), if_neg (by omega)]
  have e8 : nRow K L p r w 8 = nMid K L r w 8 := by unfold nRow nGrw; rw [if_neg (by omega), if_neg (by omega)]
  rw [e7] at h7
  rw [e8] at h8
  by_cases q3 : w < 3
  · have g0 : nGot K L r w = 0 := by
      unfold nMid at h7
      rw [if_pos q3, if_neg (by omega), if_pos rfl] at h7
      omega
    refine ⟨fun j => ?_, fun h => by omega⟩
    unfold nMid at h8 ⊢
    rw [if_pos q3, g0] at *
    by_cases a1 : j = w
    · rw [if_pos a1, a1]; omega
    · rw [if_neg a1]
      by_cases a2 : j = 7
      · rw [if_pos a2, a2]; omega
      · rw [if_neg a2]
        by_cases a3 : j = 8
        · rw [if_pos a3, a3]
          rw [if_neg (by omega), if_neg (by omega), if_pos rfl] at h8
          exact h8
        · rw [if_neg a3]
  · by_cases q7 : w < 7
    · have gl : nGot K L r w ≤ r 7 := by unfold nGot; rw [if_neg q3, if_pos q7]; omega
      have g0 : nGot K L r w = 0 := by
        unfold nMid at h7
        rw [if_neg q3, if_pos q7, if_neg (by omega), if_pos rfl] at h7
        omega
      refine ⟨fun j => ?_, fun _ => g0⟩
      unfold nMid
      rw [if_neg q3, if_pos q7, g0]
      by_cases a1 : j = w
      · rw [if_pos a1, a1]; omega
      · rw [if_neg a1]
        by_cases a2 : j = 7
        · rw [if_pos a2, a2]; omega
        · rw [if_neg a2]
    · refine ⟨fun j => ?_, fun h => by omega⟩
      unfold nMid at h8 ⊢
      rw [if_neg q3, if_neg q7] at *
      rw [if_pos rfl] at h8
      by_cases a1 : j = 8
      · rw [if_pos a1, a1]; exact h8
      · rw [if_neg a1]
theorem idle_row {K L r : Nat → Nat} {p w w' : Nat} (h : ∀ j, nMid K L r w j = r j) (h' : ∀ j, nMid K L r w' j = r j) : nRow K L p r w = nRow K L p r w' := by
  have e : nMid K L r w = nMid K L r w' := funext fun j => by rw [h, h']
  funext j
  unfold nRow
  rw [e]
/-! the bound -/
/-- parts that a shirt lacks; pieces -/
def lk (S : eS) (r : Nat → Nat) (j : Nat) : Nat := S 2 (3 + j) - r (3 + j)
def tS (S : eS) (r : Nat → Nat) (i : Nat) : Nat → Nat
  | 0 => 0
  | j + 1 => tS S r i j + (lk S r j + i) / 3
def pS (S : eS) (r : Nat → Nat) (b : Nat) : Nat → Nat
  | 0 => 0
  | j + 1 => pS S r b j + (if b.testBit j = true then lk S r j else 0)
def wS (S : eS) (r : Nat → Nat) (b : Nat) : Nat → Nat
  | 0 => 0
  | j + 1 => wS S r b j + (if b.testBit j = true then (lk S r j + 2) / 3 else 0)
def pb (h : Nat) : Nat := 3 - h / 3
theorem tS_c {S : eS} {r r' : Nat → Nat} {i : Nat} : ∀ j, (∀ k, k < j → lk S r k = lk S r' k) → tS S r i j = tS S r' i j := by
  intro j
  induction j with
  | zero => intro _; rfl
  | succ j ih => intro h; show tS S r i j + _ = tS S r' i j + _; rw [ih (fun k hk => h k (by omega)), h j (by omega)]
theorem pS_c {S : eS} {r r' : Nat → Nat} {b : Nat} : ∀ j, (∀ k, k < j → lk S r k = lk S r' k) → pS S r b j = pS S r' b j ∧ wS S r b j = wS S r' b j := by
  intro j
  induction j with
  | zero => intro _; exact ⟨rfl, rfl⟩
  | succ j ih =>
    intro h
    have e := ih (fun k hk => h k (by omega))
    refine ⟨?_, ?_⟩
    · show pS S r b j + _ = pS S r' b j + _; rw [e.1, h j (by omega)]
    · show wS S r b j + _ = wS S r' b j + _; rw [e.2, h j (by omega)]
/-- one shirt has d parts more -/
theorem tS_s {S : eS} {r r' : Nat → Nat} {i u d N : Nat} (hu : lk S r u = lk S r' u + d) (ho : ∀ k, k < N → k ≠ u → lk S r k = lk S r' k) : ∀ j, j ≤ N → tS S r i j = tS S r' i j + (if u < j then (lk S r u + i) / 3 - (lk S r' u + i) / 3 else 0) := by
  intro j
  induction j with
  | zero => intro _; rw [if_neg (by omega)]; rfl
  | succ j ih =>
    intro hj
    show tS S r i j + (lk S r j + i) / 3 = tS S r' i j + (lk S r' j + i) / 3 + _
    rw [ih (by omega)]
    by_cases q : j = u
    · subst q
      rw [if_neg (by omega), if_pos (by omega)]
      have : (lk S r' j + i) / 3 ≤ (lk S r j + i) / 3 := Nat.div_le_div_right (by omega)
      omega
    · rw [ho j (by omega) q]
      by_cases q2 : u < j
      · rw [if_pos q2, if_pos (by omega)]; omega
      · rw [if_neg q2, if_neg (by omega)]; omega
theorem pS_s {S : eS} {r r' : Nat → Nat} {b u d N : Nat} (hd : d ≤ 3) (hu : lk S r u = lk S r' u + d) (ho : ∀ k, k < N → k ≠ u → lk S r k = lk S r' k) : pS S r b N ≤ pS S r' b N + d ∧ wS S r b N ≤ wS S r' b N + 1 := by
  have key : ∀ j, j ≤ N → (j ≤ u → pS S r b j = pS S r' b j ∧ wS S r b j = wS S r' b j) ∧ (pS S r b j ≤ pS S r' b j + d ∧ wS S r b j ≤ wS S r' b j + 1) := by
    intro j
    induction j with
    | zero => intro _; exact ⟨fun _ => ⟨rfl, rfl⟩, Nat.zero_le _, Nat.zero_le _⟩
    | succ j ih =>
      intro hj
      have ih := ih (by omega)
      refine ⟨fun h => ?_, ?_⟩
      · have e := ih.1 (by omega)
        refine ⟨?_, ?_⟩
        · show pS S r b j + _ = pS S r' b j + _; rw [e.1, ho j (by omega) (by omega)]
        · show wS S r b j + _ = wS S r' b j + _; rw [e.2, ho j (by omega) (by omega)]
      · show pS S r b j + (if b.testBit j = true then lk S r j else 0) ≤ pS S r' b j + (if b.testBit j = true then lk S r' j else 0) + d ∧ wS S r b j + (if b.testBit j = true then (lk S r j + 2) / 3 else 0) ≤ wS S r' b j + (if b.testBit j = true then (lk S r' j + 2) / 3 else 0) + 1
        by_cases q : j = u
        · subst q
          have e := ih.1 (Nat.le_refl _)
          rw [e.1, e.2]
          split <;> omega
        · rw [ho j (by omega) q]
          have e := ih.2
          omega
  exact (key N (Nat.le_refl _)).2
/-- what q nights of sewing can take of the pieces -/
def clth (t0 t1 t2 q : Nat) : Nat := min q t0 + min q t1 + min q t2
theorem mn1 {T T' d : Nat} (q : Nat) (h : T = T' + d) (hd : d ≤ 1) : d + min q T' ≤ min (q + 1) T := by omega
theorem herm {a b d : Nat} (h : a = b + d) (hd : d ≤ 3) : d = ((a + 0) / 3 - (b + 0) / 3) + ((a + 1) / 3 - (b + 1) / 3) + ((a + 2) / 3 - (b + 2) / 3) ∧ (a + 0) / 3 - (b + 0) / 3 ≤ 1 ∧ (a + 1) / 3 - (b + 1) / 3 ≤ 1 ∧ (a + 2) / 3 - (b + 2) / 3 ≤ 1 := by
  subst h
  rcases (show d = 0 ∨ d = 1 ∨ d = 2 ∨ d = 3 by omega) with rfl | rfl | rfl | rfl
  · omega
  · omega
  · omega
  · omega
theorem clth_s {S : eS} {r r' : Nat → Nat} {u d n q : Nat} (hd : d ≤ 3) (hu : lk S r u = lk S r' u + d) (ho : ∀ k, k < n → k ≠ u → lk S r k = lk S r' k) (hn : u < n) : d + clth (tS S r' 0 n) (tS S r' 1 n) (tS S r' 2 n) q ≤ clth (tS S r 0 n) (tS S r 1 n) (tS S r 2 n) (q + 1) := by
  have e0 := tS_s (i := 0) hu ho n (Nat.le_refl _)
  have e1 := tS_s (i := 1) hu ho n (Nat.le_refl _)
  have e2 := tS_s (i := 2) hu ho n (Nat.le_refl _)
  rw [if_pos hn] at e0 e1 e2
  obtain ⟨ds, l0, l1, l2⟩ := herm hu hd
  clear hu ho hd hn
  have d0 := mn1 q e0 l0
  have d1 := mn1 q e1 l1
  have d2 := mn1 q e2 l2
  unfold clth
  generalize (lk S r u + 0) / 3 - (lk S r' u + 0) / 3 = x0 at *
  generalize (lk S r u + 1) / 3 - (lk S r' u + 1) / 3 = x1 at *
  generalize (lk S r u + 2) / 3 - (lk S r' u + 2) / 3 = x2 at *
  generalize min (q + 1) (tS S r 0 n) = y0 at *
  generalize min (q + 1) (tS S r 1 n) = y1 at *
  generalize min (q + 1) (tS S r 2 n) = y2 at *
  generalize min q (tS S r' 0 n) = y3 at *
  generalize min q (tS S r' 1 n) = y4 at *
  generalize min q (tS S r' 2 n) = y5 at *
  clear e0 e1 e2 l0 l1 l2
  omega
theorem pb_mo {a b : Nat} (h : a ≤ b) : pb b ≤ pb a := by
  have := Nat.div_le_div_right (c := 3) h
  unfold pb; omega
/-- told shirts are all sewn -/
def lfS (S : eS) (b : Nat) (r : Nat → Nat) : Bool := decide (∀ j, j < S 0 1 → b.testBit j = true → r (3 + j) = S 2 (3 + j))
def okW (S : eS) (w : Nat) : Bool := decide (w < S 0 0 ∨ (3 ≤ w ∧ w < 3 + S 0 1) ∨ w = 7)
theorem okW_i {S : eS} {w : Nat} : okW S w = true ↔ isN S w := by unfold okW isN; exact decide_eq_true_iff
theorem pS_0 {S : eS} {r : Nat → Nat} {b : Nat} : ∀ n, (∀ j, j < n → b.testBit j = true → r (3 + j) = S 2 (3 + j)) → pS S r b n = 0 ∧ wS S r b n = 0 := by
  intro n
  induction n with
  | zero => intro _; exact ⟨rfl, rfl⟩
  | succ n ih =>
    intro h
    have e := ih (fun j hj => h j (by omega))
    have h2 := h n (by omega)
    refine ⟨?_, ?_⟩
    · show pS S r b n + (if b.testBit n = true then lk S r n else 0) = 0
      rw [e.1]
      split
      · unfold lk; rw [h2 (by assumption)]; omega
      · rfl
    · show wS S r b n + (if b.testBit n = true then (lk S r n + 2) / 3 else 0) = 0
      rw [e.2]
      split
      · unfold lk; rw [h2 (by assumption)]; omega
      · rfl
theorem pS_z {S : eS} {r : Nat → Nat} {b : Nat} : ∀ n, (∀ j, j < n → r (3 + j) ≤ S 2 (3 + j)) → pS S r b n = 0 → ∀ j, j < n → b.testBit j = true → r (3 + j) = S 2 (3 + j) := by
  intro n
  induction n with
  | zero => intro _ _ j hj; omega
  | succ n ih =>
    intro hl h j hj hb
    have h : pS S r b n + (if b.testBit n = true then lk S r n else 0) = 0 := h
    by_cases q : j = n
    · subst q
      rw [if_pos hb] at h
      have := hl j (by omega)
      unfold lk at h; omega
    · exact ih (fun j hj => hl j (by omega)) (by omega) j (by omega) hb
/-- the greatest picking -/
def mpOK (S : eS) (mp lo hi : Nat) : Prop := ∀ j num, j < S 0 0 → lo ≤ num → num < hi → nPk (S 1 j) num ≤ mp
set_option maxHeartbeats 2000000 in
theorem ev_b {t : Nat} {S : eS} (hs : sok t S) {b mp : Nat} : ∀ (m : Nat) (t' : Nat) (r : Nat → Nat) (s x v : Nat), erng t' r (S 2) (S 0 0) (S 0 1) → mpOK S mp (r 9) (r 9 + m) → ev S (okW S) (lfS S b) m r s x = some v → ∃ q T, q ≤ m ∧ v = s + T ∧ T ≤ clth (tS S r 0 (S 0 1)) (tS S r 1 (S 0 1)) (tS S r 2 (S 0 1)) q ∧ T ≤ r 7 + mp * (m - q) ∧ T ≤ q * pb (r 8 - 2 * (m - q)) ∧ pS S r b (S 0 1) ≤ T ∧ wS S r b (S 0 1) ≤ q := by
  have z0 := hs.1
  have z1 := hs.2.1
  intro m
  induction m with
  | zero =>
    intro t' r s x v hr hm he
    have he : (if lfS S b r = true then some s else none) = some v := he
    by_cases q : lfS S b r = true
    · rw [if_pos q] at he
      cases he
      have e := pS_0 (S 0 1) (of_decide_eq_true q)
      exact ⟨0, 0, Nat.le_refl _, rfl, Nat.zero_le _, Nat.zero_le _, Nat.zero_le _, by rw [e.1]; exact Nat.le_refl _, by rw [e.2]; exact Nat.le_refl _⟩
    · rw [if_neg q] at he; cases he
  | succ m ih =>
    intro t' r s x v hr hm he
    have he : (if okW S (x / 8 ^ m) = true then ev S (okW S) (lfS S b) m (nRow (S 1) (S 2) (S 0 0) r (x / 8 ^ m)) (s + (if 3 ≤ x / 8 ^ m ∧ x / 8 ^ m < 7 then nGot (S 1) (S 2) r (x / 8 ^ m) else 0)) (x % 8 ^ m) else none) = some v := he
    generalize x / 8 ^ m = w at he
    by_cases q0 : okW S w = true
    rotate_left
    · rw [if_neg q0] at he; cases he
    rw [if_pos q0] at he
    have hn := okW_i.mp q0
    have hr' := nRow_le hs hr hn
    have e9 : nRow (S 1) (S 2) (S 0 0) r w 9 = r 9 + 1 := by unfold nRow; rw [if_pos rfl]
    have em : ∀ j, 3 ≤ j → j < 9 → nRow (S 1) (S 2) (S 0 0) r w j = nMid (S 1) (S 2) r w j := fun j h1 h2 => by
      unfold nRow nGrw; rw [if_neg (by omega), if_neg (by omega)]
    obtain ⟨q, T, h1, h2, h3, h4, h5, h6, h7⟩ := ih (t' + 1) _ _ _ v hr' (by
      intro j num a1 a2 a3
      rw [e9] at a2 a3
      exact hm j num a1 (by omega) (by omega)) he
    rw [em 7 (by omega) (by omega)] at h4
    rw [em 8 (by omega) (by omega)] at h5
    obtain ⟨n0, n1, n2, n3, n4⟩ := hr
    unfold isN at hn
    by_cases q3 : w < 3
    · -- picking
      have hlk : ∀ k, k < S 0 1 → lk S r k = lk S (nRow (S 1) (S 2) (S 0 0) r w) k := fun k hk => by
        unfold lk; rw [em (3 + k) (by omega) (by omega)]; unfold nMid; rw [if_pos q3, if_neg (by omega), if_neg (by omega), if_neg (by omega)]
      rw [← tS_c (S 0 1) hlk, ← tS_c (S 0 1) hlk, ← tS_c (S 0 1) hlk] at h3
      rw [← (pS_c (S 0 1) hlk).1] at h6
      rw [← (pS_c (S 0 1) hlk).2] at h7
      rw [if_neg (by omega), Nat.add_zero] at h2
      have g1 : nGot (S 1) (S 2) r w ≤ mp := by
        have := hm w (r 9) (by omega) (Nat.le_refl _) (by omega)
        unfold nGot; rw [if_pos q3]; omega
      have k7 : nMid (S 1) (S 2) r w 7 = r 7 + nGot (S 1) (S 2) r w := by unfold nMid; rw [if_pos q3, if_neg (by omega), if_pos rfl]
      have k8 : r 8 ≤ nMid (S 1) (S 2) r w 8 := by unfold nMid; rw [if_pos q3, if_neg (by omega), if_neg (by omega), if_pos rfl]; omega
      rw [k7] at h4
      refine ⟨q, T, by omega, h2, h3, ?_, ?_, h6, h7⟩
      · rw [show m + 1 - q = (m - q) + 1 by omega, Nat.mul_succ]; omega
      · exact Nat.le_trans h5 (Nat.mul_le_mul_left _ (pb_mo (by omega)))
    · by_cases q7 : w < 7
      · -- sewing
        have w3 := n4 (w - 3) (by omega)
        rw [show 3 + (w - 3) = w by omega] at w3
        have gg : nGot (S 1) (S 2) r w = min (min (3 - r 8 / 3) (r 7)) (S 2 w - r w) := by unfold nGot; rw [if_neg q3, if_pos q7]
        have hu : lk S r (w - 3) = lk S (nRow (S 1) (S 2) (S 0 0) r w) (w - 3) + nGot (S 1) (S 2) r w := by
          unfold lk; rw [em (3 + (w - 3)) (by omega) (by omega)]; unfold nMid; rw [if_neg q3, if_pos q7, if_pos (by omega), show 3 + (w - 3) = w by omega]; omega
        have ho : ∀ k, k < S 0 1 → k ≠ w - 3 → lk S r k = lk S (nRow (S 1) (S 2) (S 0 0) r w) k := fun k hk hk2 => by
          unfold lk
          rw [em (3 + k) (by omega) (by omega)]; unfold nMid
          rw [if_neg q3, if_pos q7, if_neg (by omega), if_neg (by omega)]
        have hd : nGot (S 1) (S 2) r w ≤ 3 := by omega
        have k7 : nMid (S 1) (S 2) r w 7 = r 7 - nGot (S 1) (S 2) r w := by unfold nMid; rw [if_neg q3, if_pos q7, if_neg (by omega), if_pos rfl]
        have k8 : nMid (S 1) (S 2) r w 8 = r 8 := by unfold nMid; rw [if_neg q3, if_pos q7, if_neg (by omega), if_neg (by omega)]
        rw [k7] at h4
        rw [k8] at h5
        rw [if_pos (by omega)] at h2
        have hc := clth_s (q := q) hd hu ho (show w - 3 < S 0 1 by omega)
        have hp := pS_s (b := b) hd hu ho
        refine ⟨q + 1, nGot (S 1) (S 2) r w + T, by omega, by omega, by omega, ?_, ?_, by omega, by omega⟩
        · rw [show m + 1 - (q + 1) = m - q by omega]; omega
        · rw [show m + 1 - (q + 1) = m - q by omega, Nat.succ_mul]
          have : nGot (S 1) (S 2) r w ≤ pb (r 8 - 2 * (m - q)) := Nat.le_trans (show nGot (S 1) (S 2) r w ≤ pb (r 8) by unfold pb; omega) (pb_mo (by omega))
          omega
      · -- resting
        have hlk : ∀ k, k < S 0 1 → lk S r k = lk S (nRow (S 1) (S 2) (S 0 0) r w) k := fun k hk => by
          unfold lk; rw [em (3 + k) (by omega) (by omega)]; unfold nMid; rw [if_neg q3, if_neg q7, if_neg (by omega)]
        rw [← tS_c (S 0 1) hlk, ← tS_c (S 0 1) hlk, ← tS_c (S 0 1) hlk] at h3
        rw [← (pS_c (S 0 1) hlk).1] at h6
        rw [← (pS_c (S 0 1) hlk).2] at h7
        rw [if_neg (by omega), Nat.add_zero] at h2
        have k7 : nMid (S 1) (S 2) r w 7 = r 7 := by unfold nMid; rw [if_neg q3, if_neg q7, if_neg (by omega)]
        have k8 : nMid (S 1) (S 2) r w 8 = r 8 - 2 := by unfold nMid; rw [if_neg q3, if_neg q7, if_pos rfl]
        rw [k7] at h4
        rw [k8] at h5
        refine ⟨q, T, by omega, h2, h3, ?_, ?_, h6, h7⟩
        · rw [show m + 1 - q = (m - q) + 1 by omega, Nat.mul_succ]; omega
        · rw [show r 8 - 2 * (m + 1 - q) = r 8 - 2 - 2 * (m - q) by omega]; exact h5
/-- a plan sews no more than so much a night -/
theorem ev_le {S : eS} {ok : Nat → Bool} {lf : (Nat → Nat) → Bool} : ∀ (m : Nat) (r : Nat → Nat) (s x v : Nat), ev S ok lf m r s x = some v → v ≤ s + 3 * m := by
  intro m
  induction m with
  | zero =>
    intro r s x v he
    have he : (if lf r = true then some s else none) = some v := he
    split at he
    · cases he; omega
    · cases he
  | succ m ih =>
    intro r s x v he
    have he : (if ok (x / 8 ^ m) = true then ev S ok lf m (nRow (S 1) (S 2) (S 0 0) r (x / 8 ^ m)) (s + (if 3 ≤ x / 8 ^ m ∧ x / 8 ^ m < 7 then nGot (S 1) (S 2) r (x / 8 ^ m) else 0)) (x % 8 ^ m) else none) = some v := he
    generalize x / 8 ^ m = w at he
    split at he
    · have h := ih _ _ _ _ he
      by_cases q : 3 ≤ w ∧ w < 7
      · rw [if_pos q] at h
        have : nGot (S 1) (S 2) r w ≤ 3 := by unfold nGot; rw [if_neg (by omega), if_pos q.2]; omega
        omega
      · rw [if_neg q] at h; omega
    · cases he
/-- what the class reckons -/
def hd (h a : Nat) : Nat → Nat
  | 0 => 0
  | q + 1 => hd h a q + pb (h - 2 * (a - (q + 1)))
def sb (st h mp a t0 t1 t2 : Nat) : Nat → Nat
  | 0 => 0
  | q + 1 => max (sb st h mp a t0 t1 t2 q) (min (st + mp * (a - (q + 1))) (min (hd h a (q + 1)) (clth t0 t1 t2 (q + 1))))
theorem hd_ge {h a : Nat} : ∀ q, q ≤ a → q * pb (h - 2 * (a - q)) ≤ hd h a q := by
  intro q
  induction q with
  | zero => intro _; rw [Nat.zero_mul]; exact Nat.zero_le _
  | succ q ih =>
    intro hq
    have h1 := ih (by omega)
    have h2 : q * pb (h - 2 * (a - (q + 1))) ≤ q * pb (h - 2 * (a - q)) := Nat.mul_le_mul_left _ (pb_mo (by omega))
    show (q + 1) * pb (h - 2 * (a - (q + 1))) ≤ hd h a q + pb (h - 2 * (a - (q + 1)))
    rw [Nat.succ_mul]
    omega
theorem sb_ge {st h mp a t0 t1 t2 : Nat} {q : Nat} (h1 : 1 ≤ q) : ∀ n, q ≤ n → min (st + mp * (a - q)) (min (hd h a q) (clth t0 t1 t2 q)) ≤ sb st h mp a t0 t1 t2 n := by
  intro n
  induction n with
  | zero => intro hq; omega
  | succ n ih =>
    intro hq
    show _ ≤ max (sb st h mp a t0 t1 t2 n) _
    by_cases q2 : q = n + 1
    · subst q2; exact Nat.le_max_right _ _
    · exact Nat.le_trans (ih (by omega)) (Nat.le_max_left _ _)
def swb (S : eS) (r : Nat → Nat) (mp a : Nat) : Nat := sb (r 7) (r 8) mp a (tS S r 0 (S 0 1)) (tS S r 1 (S 0 1)) (tS S r 2 (S 0 1)) a
def wth (S : eS) (r : Nat → Nat) (b mp a s : Nat) (o : Option Nat) : Prop := wS S r b (S 0 1) ≤ a ∧ pS S r b (S 0 1) ≤ swb S r mp a ∧ ∀ m, o = some m → m < s + swb S r mp a
theorem ev_w {t : Nat} {S : eS} (hs : sok t S) {b mp m t' s x v : Nat} {r : Nat → Nat} {a : aC} (hr : erng t' r (S 2) (S 0 0) (S 0 1)) (hm : mpOK S mp (r 9) (r 9 + m)) (hw : ¬ wth S r b mp m s a.1) (he : ev S (okW S) (lfS S b) m r s x = some v) : ubA a v := by
  obtain ⟨q, T, h1, h2, h3, h4, h5, h6, h7⟩ := ev_b hs m t' r s x v hr hm he
  have hT : T ≤ swb S r mp m := by
    by_cases q0 : q = 0
    · subst q0
      rw [Nat.zero_mul] at h5
      omega
    · have g := sb_ge (st := r 7) (h := r 8) (mp := mp) (a := m) (t0 := tS S r 0 (S 0 1)) (t1 := tS S r 1 (S 0 1)) (t2 := tS S r 2 (S 0 1)) (q := q) (by omega) m h1
      have g2 := hd_ge (h := r 8) (a := m) q h1
      refine Nat.le_trans ?_ g
      omega
  cases e : a.1 with
  | none =>
    refine absurd ⟨by omega, by omega, fun m hm => ?_⟩ hw
    rw [e] at hm; cases hm
  | some u =>
    refine ⟨u, e, ?_⟩
    by_cases q2 : v ≤ u
    · exact q2
    · refine absurd ⟨by omega, by omega, fun m hm => ?_⟩ hw
      rw [e] at hm; cases hm
      omega

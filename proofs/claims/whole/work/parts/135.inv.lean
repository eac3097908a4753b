/-! the invariant: an abstract state S (row 0: counts p s u z c1 c2; 1 kinds; 2 limits; 3 bare; 4 now; 5 before; 6 signs; 7 laws; 8 sizes of laws; 9 weights), told by the class's cells and by the reference's -/
abbrev eS : Type := Nat → Nat → Nat
def sup (S : eS) (k j x : Nat) : eS := fun i l => if i = k ∧ l = j then x else S i l
theorem su_ap (S : eS) (k j x i l : Nat) : sup S k j x i l = if i = k ∧ l = j then x else S i l := rfl
/-- places of a row of nights: the class's -> the reference's -/
def epm (j : Nat) : Nat := if j < 7 then j + 3 else if j = 7 then 1 else if j = 8 then 2 else 0
/-- a row of nights is in its bounds, under limits, how many plots and shirts, the greatest number -/
def erng (t : Nat) (row lim : Nat → Nat) (p s : Nat) : Prop := row 7 ≤ 30 ∧ row 8 ≤ 9 ∧ row 9 ≤ t ∧ (∀ j, j < p → row j ≤ lim j) ∧ (∀ j, j < s → row (3 + j) ≤ lim (3 + j))
def sok (t : Nat) (S : eS) : Prop :=
  S 0 0 ≤ 3 ∧ S 0 1 ≤ 4 ∧ S 0 2 ≤ 12 ∧ S 0 3 ≤ 60 ∧ S 0 4 ≤ 4 ∧ S 0 5 ≤ 4 ∧
  (∀ j, j < S 0 0 → S 1 j < 6 ∧ S 2 j ≤ 20 ∧ S 3 j ≤ 20) ∧ (∀ j, j < S 0 1 → 1 ≤ S 2 (3 + j) ∧ S 2 (3 + j) ≤ 12) ∧
  erng t (S 4) (S 2) (S 0 0) (S 0 1) ∧ (∀ r, r < S 0 2 → erng t (fun j => S 5 (10 * r + j)) (S 2) (S 0 0) (S 0 1)) ∧
  (∀ j, j < S 0 3 → S 6 j < 26) ∧ (∀ i, i < 4 → S 8 i ≤ 8 ∧ ∀ j, j < S 8 i → S 7 (8 * i + j) < 28) ∧
  (∀ j, j < S 0 4 → 1 ≤ S 9 j ∧ S 9 j ≤ 9) ∧ (∀ j, j < S 0 5 → 1 ≤ S 9 (4 + j) ∧ S 9 (4 + j) ≤ 9)
/-- the life at the cell b tells S -/
def rC (S : eS) (A : eA) (b : Nat) : Prop :=
  A b 4 = nI (S 0 0) ∧ A b 5 = nI (S 0 1) ∧ A b 8 = nI (S 0 2) ∧ A (b + 13) 1 = nI (S 0 3) ∧ A (b + 21) 0 = nI (S 0 4) ∧ A (b + 21) 1 = nI (S 0 5) ∧
  (∀ j, j < S 0 0 → A (b + 8) j = nI (S 1 j)) ∧ (∀ j, j < S 0 0 → A (b + 10) j = nI (S 2 j)) ∧ (∀ j, j < S 0 1 → A (b + 10) (3 + j) = nI (S 2 (3 + j))) ∧
  (∀ j, j < S 0 0 → A (b + 9) j = nI (S 3 j)) ∧ (∀ j, j < 10 → A (b + 11) j = nI (S 4 j)) ∧ (∀ j, j < 10 * S 0 2 → A (b + 12) j = nI (S 5 j)) ∧
  (∀ j, j < S 0 3 → A (b + 14) j = nI (S 6 j)) ∧ (∀ j, j < 4 → A (b + 16) j = nI (S 8 j)) ∧ (∀ i j, i < 4 → j < S 8 i → A (b + 15) (8 * i + j) = nI (S 7 (8 * i + j))) ∧
  (∀ j, j < S 0 4 → A (b + 20) j = nI (S 9 j)) ∧ (∀ j, j < S 0 5 → A (b + 20) (4 + j) = nI (S 9 (4 + j)))
/-- a book tells S -/
def rR (S : eS) (bk : Nat → Int32) : Prop :=
  bk 0 = nI (S 0 0) ∧ bk 1 = nI (S 0 1) ∧ bk 2 = nI (S 0 2) ∧ bk 3 = nI (S 0 3) ∧ bk 4 = nI (S 0 4) ∧ bk 5 = nI (S 0 5) ∧
  (∀ j, j < S 0 0 → bk (16 + 3 * j) = nI (S 1 j)) ∧ (∀ j, j < S 0 0 → bk (17 + 3 * j) = nI (S 2 j)) ∧ (∀ j, j < S 0 1 → bk (25 + j) = nI (S 2 (3 + j))) ∧
  (∀ j, j < S 0 0 → bk (18 + 3 * j) = nI (S 3 j)) ∧ (∀ j, j < 10 → bk (6 + epm j) = nI (S 4 j)) ∧ (∀ r j, r < S 0 2 → j < 10 → bk (133 + 10 * r + epm j) = nI (S 5 (10 * r + j))) ∧
  (∀ j, j < S 0 3 → bk (29 + j) = nI (S 6 j)) ∧ (∀ j, j < 4 → bk (89 + j) = nI (S 8 j)) ∧ (∀ i j, i < 4 → j < S 8 i → bk (93 + 8 * i + j) = nI (S 7 (8 * i + j))) ∧
  (∀ j, j < S 0 4 → bk (125 + j) = nI (S 9 j)) ∧ (∀ j, j < S 0 5 → bk (129 + j) = nI (S 9 (4 + j)))
/-- the images: which were kept, where they lie -/
def eimg (t : Nat) (A : eA) (f : Nat → Option Nat) (n : Nat) : Prop :=
  (∀ i, i < 2 → (f i = none ∧ A 64 i = nI 0) ∨ ∃ (b : Nat) (T : eS), (b = 74 ∧ 1 ≤ n ∨ b = 97 ∧ 2 ≤ n) ∧ f i = some b ∧ A 64 i = nI 1 ∧ sok t T ∧ rC T A b ∧ rR T (fun k => A 63 (253 * i + k))) ∧
  (f 0 = none ∨ f 1 = none ∨ f 0 ≠ f 1) ∧ n ≤ 2 ∧ (n = 0 → f 0 = none ∧ f 1 = none) ∧ (n = 1 → f 0 = none ∨ f 1 = none) ∧ (n = 2 → f 0 ≠ none ∧ f 1 ≠ none) ∧ (n = 1 → f 0 ≠ none ∨ f 1 ≠ none)
/-- what the calls share beside the life: refusals, the fraction, the text -/
def eoth (A : eA) (B : eB) : Prop := A 61 5 = nI 0 ∧ B 0 5 = B 61 6 ∧ B 0 6 = B 61 7 ∧ A 0 7 = A 66 0 ∧ A 0 8 = A 66 1 ∧ A 0 9 = A 66 2 ∧
  (∃ t : Nat, t ≤ 200 ∧ A 59 1 = nI t ∧ A 61 14 = nI t ∧ ∀ j, j < t → ∃ k : Nat, k < 256 ∧ A 60 j = nI k ∧ A 72 j = nI k)
def eI (t : Nat) (S : eS) (A : eA) (B : eB) (f : Nat → Option Nat) (n : Nat) : Prop := sok t S ∧ rC S A 1 ∧ rR S (A 62) ∧ eimg t A f n ∧ eoth A B
def eInv (t : Nat) (h : qH) : Prop := ∃ (S : eS) (A : eA) (B : eB) (f : Nat → Option Nat) (n : Nat), h = enc A B f n ∧ eI t S A B f n
def e0A : eA := fun k => if k = 48 then (fun j => if j = 6 then -1 else 0) else if k = 59 then (fun j => if j = 6 then -1 else 0) else fun _ => 0
def e0B : eB := fun k => if k = 0 then (fun j => if j = 6 then 1 else 0) else if k = 61 then (fun j => if j = 7 then 1 else 0) else fun _ => 0
set_option maxRecDepth 100000 in
theorem enc0 : qhB = enc e0A e0B (fun _ => none) 0 := rfl
def s0 : eS := fun _ _ => 0
theorem s0ok : sok 0 s0 := by
  refine ⟨by decide, by decide, by decide, by decide, by decide, by decide, fun j h => absurd h (by show ¬ j < 0; omega), fun j h => absurd h (by show ¬ j < 0; omega), ⟨by decide, by decide, by decide, fun j h => absurd h (by show ¬ j < 0; omega), fun j h => absurd h (by show ¬ j < 0; omega)⟩, fun j h => absurd h (by show ¬ j < 0; omega), fun j h => absurd h (by show ¬ j < 0; omega), fun i _ => ⟨by show 0 ≤ 8; decide, fun j h => absurd h (by show ¬ j < 0; omega)⟩, fun j h => absurd h (by show ¬ j < 0; omega), fun j h => absurd h (by show ¬ j < 0; omega)⟩
theorem e0inv : eInv 0 qhB := ⟨s0, e0A, e0B, fun _ => none, 0, enc0, s0ok,
  ⟨rfl, rfl, rfl, rfl, rfl, rfl, fun _ _ => rfl, fun _ _ => rfl, fun _ _ => rfl, fun _ _ => rfl, fun _ _ => rfl, fun _ _ => rfl, fun _ _ => rfl, fun _ _ => rfl, fun _ _ _ _ => rfl, fun _ _ => rfl, fun _ _ => rfl⟩,
  ⟨rfl, rfl, rfl, rfl, rfl, rfl, fun _ _ => rfl, fun _ _ => rfl, fun _ _ => rfl, fun _ _ => rfl, fun _ _ => rfl, fun _ _ _ _ => rfl, fun _ _ => rfl, fun _ _ => rfl, fun _ _ _ _ => rfl, fun _ _ => rfl, fun _ _ => rfl⟩,
  ⟨fun i _ => Or.inl ⟨rfl, rfl⟩, Or.inl rfl, by decide, fun _ => ⟨rfl, rfl⟩, fun h => absurd h (by decide), fun h => absurd h (by decide), fun h => absurd h (by decide)⟩, rfl, rfl, rfl, rfl, rfl, rfl, 0, by decide, rfl, rfl, fun j h => absurd h (by omega)⟩
theorem eInv_0 (t : Nat) (h : qH) (hI : eInv t h) : ∃ fs, h[0]? = some (.inr (.inr (11, fs))) := by
  obtain ⟨S, A, B, f, n, rfl, -⟩ := hI
  exact ⟨_, rfl⟩
theorem e_61 (A : eA) (B : eB) (f : Nat → Option Nat) (n : Nat) : ∃ fs, (enc A B f n)[61]? = some (.inr (.inr (12, fs))) := ⟨_, rfl⟩
theorem erng_m {t : Nat} {row lim : Nat → Nat} {p s : Nat} (h : erng t row lim p s) : erng (t + 1) row lim p s := ⟨h.1, h.2.1, Nat.le_succ_of_le h.2.2.1, h.2.2.2⟩
theorem sok_m {t : Nat} {S : eS} (h : sok t S) : sok (t + 1) S := by
  obtain ⟨a1, a2, a3, a4, a5, a6, a7, a8, a9, a10, a11⟩ := h
  exact ⟨a1, a2, a3, a4, a5, a6, a7, a8, erng_m a9, fun r hr => erng_m (a10 r hr), a11⟩
theorem eimg_m {t : Nat} {A : eA} {f : Nat → Option Nat} {n : Nat} (h : eimg t A f n) : eimg (t + 1) A f n := by
  refine ⟨fun i hi => ?_, h.2⟩
  rcases h.1 i hi with q | ⟨b, T, h1, h2, h3, h4, h5⟩
  · exact Or.inl q
  · exact Or.inr ⟨b, T, h1, h2, h3, sok_m h4, h5⟩
theorem eI_m {t : Nat} {S : eS} {A : eA} {B : eB} {f : Nat → Option Nat} {n : Nat} (h : eI t S A B f n) : eI (t + 1) S A B f n := ⟨sok_m h.1, h.2.1, h.2.2.1, eimg_m h.2.2.2.1, h.2.2.2.2⟩
theorem eInv_m (t : Nat) (h : qH) (hI : eInv t h) : eInv (t + 1) h := by
  obtain ⟨S, A, B, f, n, rfl, hI⟩ := hI
  exact ⟨S, A, B, f, n, rfl, eI_m hI⟩
/-- a step from both sides -/
theorem eStep_of {α : Type} {F1 F2 : qP α} {t : Nat} {A A1 A2 : eA} {B B1 B2 : eB} {f f1 : Nat → Option Nat} {n n1 : Nat} {S2 : eS} (v : α) (h1 : F1 (enc A B f n) = some (v, enc A1 B1 f1 n1)) (h2 : F2 (enc A1 B1 f1 n1) = some (v, enc A2 B2 f1 n1)) (h3 : eI (t + 1) S2 A2 B2 f1 n1) : eStep eInv F1 F2 t (enc A B f n) := by
  obtain ⟨fs, e⟩ := e_61 A1 B1 f1 n1
  exact ⟨v, _, _, fs, h1, h2, e, S2, A2, B2, f1, n1, rfl, h3⟩

/-! running a program by rewriting: each op under qb, by its cell; literals; comparisons -/
theorem qb_of {α β : Type} {m : qP α} {k : α → qP β} {h : qH} {r : α × qH} (e : m h = some r) : qb m k h = k r.1 r.2 := by unfold qb; rw [e]
theorem qb_oi {α β : Type} {m : qP α} {k : α → qP β} {h : qH} {r : α × qH} {c : Prop} [Decidable c] (e : m h = if c then none else some r) : qb m k h = if c then none else k r.1 r.2 := by
  unfold qb; rw [e]; by_cases q : c
  · rw [if_pos q, if_pos q]
  · rw [if_neg q, if_neg q]
theorem qb_as {α β γ : Type} (m : qP α) (k : α → qP β) (k2 : β → qP γ) (h : qH) : qb (qb m k) k2 h = qb m (fun a => qb (k a) k2) h := by
  unfold qb; cases m h <;> rfl
theorem qb_it {α β : Type} (c : Prop) [Decidable c] (m m2 : qP α) (k : α → qP β) (h : qH) : qb (if c then m else m2) k h = if c then qb m k h else qb m2 k h := by split <;> rfl
theorem qi_ap {α : Type} (c : Prop) [Decidable c] (m m2 : qP α) (h : qH) : (if c then m else m2) h = if c then m h else m2 h := by split <;> rfl
theorem qb_qr {α β : Type} (a : α) (k : α → qP β) (h : qH) : qb (qr a) k h = k a h := rfl
theorem qr_ap {α : Type} (a : α) (h : qH) : qr a h = some (a, h) := rfl
theorem qb_gd {α β : Type} (c : Prop) [Decidable c] (m : qP α) (k : α → qP β) (h : qH) : qb (qgd c m) k h = if c then qb m k h else none := by
  unfold qb qgd; by_cases q : c
  · simp only [if_pos q]
  · simp only [if_neg q]
theorem gd_ap {α : Type} (c : Prop) [Decidable c] (m : qP α) (h : qH) : qgd c m h = if c then m h else none := rfl
theorem qb_so {β : Type} (a : Nat) (k : Nat → qP β) (h : qH) : qb (qso (some a)) k h = k a h := rfl
theorem eu_ap (A : eA) (k j : Nat) (x : Int32) (i : Nat) : eup A k j x i = if i = k then upd (A k) j x else A i := rfl
theorem up_ap (r : Nat → Int32) (j : Nat) (x : Int32) (i : Nat) : upd r j x i = if i = j then x else r i := rfl
theorem er_ap (A : eA) (k : Nat) (r : Nat → Int32) (i : Nat) : erow A k r i = if i = k then r else A i := rfl
theorem eB_ap (B : eB) (k j : Nat) (x : Int64) (i : Nat) : eupB B k j x i = if i = k then vp_updL (B k) j x else B i := rfl
theorem uL_ap (r : Nat → Int64) (j : Nat) (x : Int64) (i : Nat) : vp_updL r j x i = if i = j then x else r i := rfl
theorem ltT {a b : Nat} (h : a < b) (h2 : b < 2147483648) : (nI a < nI b) = True := eq_true (nI_lt h h2)
theorem ltF {a b : Nat} (h : b ≤ a) (h2 : a < 2147483648) : (nI a < nI b) = False := eq_false (nI_nlt h h2)
theorem leT {a b : Nat} (h : a ≤ b) (h2 : b < 2147483648) : (nI a ≤ nI b) = True := eq_true (nI_le h h2)
theorem leF {a b : Nat} (h : b < a) (h2 : a < 2147483648) : (nI a ≤ nI b) = False := eq_false (nI_ge h h2)
theorem eqT {a b : Nat} (h : a = b) : (nI a = nI b) = True := eq_true (by rw [h])
theorem eqF {a b : Nat} (h : a ≠ b) (h2 : a < 2147483648) (h3 : b < 2147483648) : (nI a = nI b) = False := eq_false (fun e => h ((nI_eq h2 h3).mp e))
theorem nltT {a b : Nat} (h : a < b) : (a < b) = True := eq_true h
theorem nltF {a b : Nat} (h : b ≤ a) : (a < b) = False := eq_false (by omega)
theorem nleT {a b : Nat} (h : a ≤ b) : (a ≤ b) = True := eq_true h
theorem nleF {a b : Nat} (h : b < a) : (a ≤ b) = False := eq_false (by omega)
theorem neqT {a b : Nat} (h : a = b) : (a = b) = True := eq_true h
theorem neqF {a b : Nat} (h : a < b ∨ b < a) : (a = b) = False := eq_false (by omega)
theorem clN {a : Nat} (h : a < 2147483648) : (nI a).toNatClampNeg = a := nI_clamp h
theorem mN2 : (-nI 2 : Int32) = -2 := rfl
theorem mN3 : (-nI 3 : Int32) = -3 := rfl
theorem mN4 : (-nI 4 : Int32) = -4 := rfl
theorem divN {a d : Nat} (ha : a < 2147483648) (h0 : 0 < d) (hd : d < 2147483648) : nI a / nI d = nI (a / d) := pk_div ha h0 hd
theorem remN {a d : Nat} (ha : a < 2147483648) (h0 : 0 < d) (hd : d < 2147483648) : nI a - nI a / nI d * nI d = nI (a % d) := pk_rem ha h0 hd
theorem lLT {a b : Nat} (h : a < b) (h2 : b < 9223372036854775808) : (lN a < lN b) = True := eq_true ((pk_lLT (by omega) h2).mpr h)
theorem lLF {a b : Nat} (h : b ≤ a) (h2 : a < 9223372036854775808) : (lN a < lN b) = False := eq_false (fun e => by have := (pk_lLT h2 (by omega)).mp e; omega)
theorem toL {a : Nat} (h : a < 2147483648) : (nI a).toInt64 = lN a := nI_l h
theorem i_of (x : Int32) : x < 0 ∨ ∃ k : Nat, k < 2147483648 ∧ x = nI k := by
  by_cases h : x < 0
  · exact Or.inl h
  · obtain ⟨j, hj, e⟩ := nI_of h
    exact Or.inr ⟨j, hj, e⟩
theorem mod31 {k : Nat} (h : k < 32) : nI k &&& 31 = nI k := by
  rw [pk_andN (by omega) 5 (by decide), Nat.mod_eq_of_lt (by omega)]
theorem smod32 : ∀ k : Nat, k < 32 → ((nI k).toBitVec.smod 32).toNat = k := by decide
theorem shlN {a k : Nat} (hk : k < 32) (h : a * 2 ^ k < 4294967296) : nI a <<< (nI k &&& nI 31) = nI (a * 2 ^ k) := by
  rw [show nI 31 = (31 : Int32) from rfl, mod31 hk]; exact pk_shlN _ k (smod32 k hk) h
theorem shrN {a k : Nat} (hk : k < 32) (h : a < 2147483648) : nI a >>> (nI k &&& nI 31) = nI (a / 2 ^ k) := by
  rw [show nI 31 = (31 : Int32) from rfl, mod31 hk]; exact pk_shrN h _ k (smod32 k hk)
theorem and1N {a : Nat} (h : a < 4294967296) : nI a &&& nI 1 = nI (a % 2) := pk_andN h 1 (by decide)
theorem in_ok {β : Type} (x y z : Int64) (k : Int32 → qP β) (h : qH) : qb (FX12_in x y z) k h = if x < y then k 0 h else if z < x then k 0 h else k 1 h := by
  unfold FX12_in
  by_cases h1 : x < y
  · rw [if_pos h1, if_pos ((lg_cmp_lt x y).mpr h1)]; rfl
  · rw [if_neg h1, if_neg (fun e => h1 ((lg_cmp_lt x y).mp e))]
    by_cases h2 : z < x
    · rw [if_pos h2, if_pos ((lg_cmp_gt x z).mpr h2)]; rfl
    · rw [if_neg h2, if_neg (fun e => h2 ((lg_cmp_gt x z).mp e))]; rfl
theorem neg_l {x : Int32} (hx : x < 0) {b : Nat} (hb : b < 2147483648) : (x.toInt64 < lN b) = True := by
  refine eq_true ?_
  have h1 : x.toInt < 0 := Int32.lt_iff_toInt_lt.mp hx
  rw [Int64.lt_iff_toInt_lt, lN_toInt hb, Int32.toInt_toInt64]
  omega

theorem li_0 : (0 : Int32) = nI 0 := rfl
theorem li_1 : (1 : Int32) = nI 1 := rfl
theorem li_2 : (2 : Int32) = nI 2 := rfl
theorem li_3 : (3 : Int32) = nI 3 := rfl
theorem li_4 : (4 : Int32) = nI 4 := rfl
theorem li_5 : (5 : Int32) = nI 5 := rfl
theorem li_6 : (6 : Int32) = nI 6 := rfl
theorem li_7 : (7 : Int32) = nI 7 := rfl
theorem li_8 : (8 : Int32) = nI 8 := rfl
theorem li_9 : (9 : Int32) = nI 9 := rfl
theorem li_10 : (10 : Int32) = nI 10 := rfl
theorem li_11 : (11 : Int32) = nI 11 := rfl
theorem li_12 : (12 : Int32) = nI 12 := rfl
theorem li_13 : (13 : Int32) = nI 13 := rfl
theorem li_15 : (15 : Int32) = nI 15 := rfl
theorem li_16 : (16 : Int32) = nI 16 := rfl
theorem li_20 : (20 : Int32) = nI 20 := rfl
theorem li_25 : (25 : Int32) = nI 25 := rfl
theorem li_26 : (26 : Int32) = nI 26 := rfl
theorem li_27 : (27 : Int32) = nI 27 := rfl
theorem li_29 : (29 : Int32) = nI 29 := rfl
theorem li_30 : (30 : Int32) = nI 30 := rfl
theorem li_31 : (31 : Int32) = nI 31 := rfl
theorem li_32 : (32 : Int32) = nI 32 := rfl
theorem li_43 : (43 : Int32) = nI 43 := rfl
theorem li_46 : (46 : Int32) = nI 46 := rfl
theorem li_48 : (48 : Int32) = nI 48 := rfl
theorem li_49 : (49 : Int32) = nI 49 := rfl
theorem li_57 : (57 : Int32) = nI 57 := rfl
theorem li_59 : (59 : Int32) = nI 59 := rfl
theorem li_60 : (60 : Int32) = nI 60 := rfl
theorem li_63 : (63 : Int32) = nI 63 := rfl
theorem li_89 : (89 : Int32) = nI 89 := rfl
theorem li_93 : (93 : Int32) = nI 93 := rfl
theorem li_97 : (97 : Int32) = nI 97 := rfl
theorem li_99 : (99 : Int32) = nI 99 := rfl
theorem li_100 : (100 : Int32) = nI 100 := rfl
theorem li_108 : (108 : Int32) = nI 108 := rfl
theorem li_110 : (110 : Int32) = nI 110 := rfl
theorem li_120 : (120 : Int32) = nI 120 := rfl
theorem li_122 : (122 : Int32) = nI 122 := rfl
theorem li_125 : (125 : Int32) = nI 125 := rfl
theorem li_129 : (129 : Int32) = nI 129 := rfl
theorem li_133 : (133 : Int32) = nI 133 := rfl
theorem li_200 : (200 : Int32) = nI 200 := rfl
theorem li_253 : (253 : Int32) = nI 253 := rfl
theorem li_1000 : (1000 : Int32) = nI 1000 := rfl
theorem lo_0 : (0 : Int64) = lN 0 := rfl
theorem lo_1 : (1 : Int64) = lN 1 := rfl
theorem lo_10 : (10 : Int64) = lN 10 := rfl
theorem lo_109103333 : (109103333 : Int64) = lN 109103333 := rfl
theorem lo_12 : (12 : Int64) = lN 12 := rfl
theorem lo_12343 : (12343 : Int64) = lN 12343 := rfl
theorem lo_13 : (13 : Int64) = lN 13 := rfl
theorem lo_17382886 : (17382886 : Int64) = lN 17382886 := rfl
theorem lo_2 : (2 : Int64) = lN 2 := rfl
theorem lo_20 : (20 : Int64) = lN 20 := rfl
theorem lo_20194900 : (20194900 : Int64) = lN 20194900 := rfl
theorem lo_25 : (25 : Int64) = lN 25 := rfl
theorem lo_255 : (255 : Int64) = lN 255 := rfl
theorem lo_27 : (27 : Int64) = lN 27 := rfl
theorem lo_3 : (3 : Int64) = lN 3 := rfl
theorem lo_31 : (31 : Int64) = lN 31 := rfl
theorem lo_32 : (32 : Int64) = lN 32 := rfl
theorem lo_4 : (4 : Int64) = lN 4 := rfl
theorem lo_4153 : (4153 : Int64) = lN 4153 := rfl
theorem lo_5 : (5 : Int64) = lN 5 := rfl
theorem lo_537076 : (537076 : Int64) = lN 537076 := rfl
theorem lo_6 : (6 : Int64) = lN 6 := rfl
theorem lo_7 : (7 : Int64) = lN 7 := rfl
theorem lo_8 : (8 : Int64) = lN 8 := rfl
theorem lo_821 : (821 : Int64) = lN 821 := rfl
theorem lo_9 : (9 : Int64) = lN 9 := rfl
theorem lo_97 : (97 : Int64) = lN 97 := rfl
theorem lo_99 : (99 : Int64) = lN 99 := rfl
section ST
variable {β : Type} (A : eA) (B : eB) (f : Nat → Option Nat) (n : Nat)
theorem b_cl_0  (k : Unit → qP β) : qb (qcl 11 0) k (enc A B f n) = k (()) (enc A B f n) := qb_of (e_cl_0 A B f n )
theorem b_g_0_0  (k : Nat → qP β) : qb (gR 11 0 0) k (enc A B f n) = k (1) (enc A B f n) := qb_of (e_g_0_0 A B f n )
theorem b_g_0_1  (k : Nat → qP β) : qb (gR 11 0 1) k (enc A B f n) = k (24) (enc A B f n) := qb_of (e_g_0_1 A B f n )
theorem b_g_0_2  (k : Nat → qP β) : qb (gR 11 0 2) k (enc A B f n) = k (47) (enc A B f n) := qb_of (e_g_0_2 A B f n )
theorem b_g_0_3  (k : Nat → qP β) : qb (gR 11 0 3) k (enc A B f n) = k (48) (enc A B f n) := qb_of (e_g_0_3 A B f n )
theorem b_g_0_4  (k : Nat → qP β) : qb (gR 11 0 4) k (enc A B f n) = k (59) (enc A B f n) := qb_of (e_g_0_4 A B f n )
theorem b_g_0_5  (k : Int64 → qP β) : qb (gL 11 0 5) k (enc A B f n) = k (B 0 5) (enc A B f n) := qb_of (e_g_0_5 A B f n )
theorem b_p_0_5 (x : Int64) (k : Unit → qP β) : qb (pV 11 0 5 (.long x)) k (enc A B f n) = k (()) (enc A (eupB B 0 5 x) f n) := qb_of (e_p_0_5 A B f n x)
theorem b_g_0_6  (k : Int64 → qP β) : qb (gL 11 0 6) k (enc A B f n) = k (B 0 6) (enc A B f n) := qb_of (e_g_0_6 A B f n )
theorem b_p_0_6 (x : Int64) (k : Unit → qP β) : qb (pV 11 0 6 (.long x)) k (enc A B f n) = k (()) (enc A (eupB B 0 6 x) f n) := qb_of (e_p_0_6 A B f n x)
theorem b_g_0_7  (k : Int32 → qP β) : qb (gI 11 0 7) k (enc A B f n) = k (A 0 7) (enc A B f n) := qb_of (e_g_0_7 A B f n )
theorem b_p_0_7 (x : Int32) (k : Unit → qP β) : qb (pV 11 0 7 (.int x)) k (enc A B f n) = k (()) (enc (eup A 0 7 x) B f n) := qb_of (e_p_0_7 A B f n x)
theorem b_g_0_8  (k : Int32 → qP β) : qb (gI 11 0 8) k (enc A B f n) = k (A 0 8) (enc A B f n) := qb_of (e_g_0_8 A B f n )
theorem b_p_0_8 (x : Int32) (k : Unit → qP β) : qb (pV 11 0 8 (.int x)) k (enc A B f n) = k (()) (enc (eup A 0 8 x) B f n) := qb_of (e_p_0_8 A B f n x)
theorem b_g_0_9  (k : Int32 → qP β) : qb (gI 11 0 9) k (enc A B f n) = k (A 0 9) (enc A B f n) := qb_of (e_g_0_9 A B f n )
theorem b_p_0_9 (x : Int32) (k : Unit → qP β) : qb (pV 11 0 9 (.int x)) k (enc A B f n) = k (()) (enc (eup A 0 9 x) B f n) := qb_of (e_p_0_9 A B f n x)
theorem b_cl_1  (k : Unit → qP β) : qb (qcl 2 1) k (enc A B f n) = k (()) (enc A B f n) := qb_of (e_cl_1 A B f n )
theorem b_g_1_0  (k : Nat → qP β) : qb (gR 2 1 0) k (enc A B f n) = k (2) (enc A B f n) := qb_of (e_g_1_0 A B f n )
theorem b_g_1_1  (k : Nat → qP β) : qb (gR 2 1 1) k (enc A B f n) = k (9) (enc A B f n) := qb_of (e_g_1_1 A B f n )
theorem b_g_1_2  (k : Nat → qP β) : qb (gR 2 1 2) k (enc A B f n) = k (10) (enc A B f n) := qb_of (e_g_1_2 A B f n )
theorem b_g_1_3  (k : Nat → qP β) : qb (gR 2 1 3) k (enc A B f n) = k (11) (enc A B f n) := qb_of (e_g_1_3 A B f n )
theorem b_g_1_4  (k : Int32 → qP β) : qb (gI 2 1 4) k (enc A B f n) = k (A 1 4) (enc A B f n) := qb_of (e_g_1_4 A B f n )
theorem b_p_1_4 (x : Int32) (k : Unit → qP β) : qb (pV 2 1 4 (.int x)) k (enc A B f n) = k (()) (enc (eup A 1 4 x) B f n) := qb_of (e_p_1_4 A B f n x)
theorem b_g_1_5  (k : Int32 → qP β) : qb (gI 2 1 5) k (enc A B f n) = k (A 1 5) (enc A B f n) := qb_of (e_g_1_5 A B f n )
theorem b_p_1_5 (x : Int32) (k : Unit → qP β) : qb (pV 2 1 5 (.int x)) k (enc A B f n) = k (()) (enc (eup A 1 5 x) B f n) := qb_of (e_p_1_5 A B f n x)
theorem b_g_1_6  (k : Nat → qP β) : qb (gR 2 1 6) k (enc A B f n) = k (12) (enc A B f n) := qb_of (e_g_1_6 A B f n )
theorem b_g_1_7  (k : Nat → qP β) : qb (gR 2 1 7) k (enc A B f n) = k (13) (enc A B f n) := qb_of (e_g_1_7 A B f n )
theorem b_g_1_8  (k : Int32 → qP β) : qb (gI 2 1 8) k (enc A B f n) = k (A 1 8) (enc A B f n) := qb_of (e_g_1_8 A B f n )
theorem b_p_1_8 (x : Int32) (k : Unit → qP β) : qb (pV 2 1 8 (.int x)) k (enc A B f n) = k (()) (enc (eup A 1 8 x) B f n) := qb_of (e_p_1_8 A B f n x)
theorem b_g_1_9  (k : Nat → qP β) : qb (gR 2 1 9) k (enc A B f n) = k (14) (enc A B f n) := qb_of (e_g_1_9 A B f n )
theorem b_g_1_10  (k : Nat → qP β) : qb (gR 2 1 10) k (enc A B f n) = k (20) (enc A B f n) := qb_of (e_g_1_10 A B f n )
theorem b_q_2 (i : Int32) (k : Option Nat → qP β) : qb (aQ 0 2 i) k (enc A B f n) = if i < 0 ∨ 6 ≤ i.toNatClampNeg then none else k ((ekf 2) i.toNatClampNeg) (enc A B f n) := qb_oi (e_q_2 A B f n i)
theorem b_l_2  (k : Int32 → qP β) : qb (aL 2) k (enc A B f n) = k (6) (enc A B f n) := qb_of (e_l_2 A B f n )
theorem b_cl_3  (k : Unit → qP β) : qb (qcl 5 3) k (enc A B f n) = k (()) (enc A B f n) := qb_of (e_cl_3 A B f n )
theorem b_cl_4  (k : Unit → qP β) : qb (qcl 7 4) k (enc A B f n) = k (()) (enc A B f n) := qb_of (e_cl_4 A B f n )
theorem b_cl_5  (k : Unit → qP β) : qb (qcl 6 5) k (enc A B f n) = k (()) (enc A B f n) := qb_of (e_cl_5 A B f n )
theorem b_cl_6  (k : Unit → qP β) : qb (qcl 1 6) k (enc A B f n) = k (()) (enc A B f n) := qb_of (e_cl_6 A B f n )
theorem b_cl_7  (k : Unit → qP β) : qb (qcl 9 7) k (enc A B f n) = k (()) (enc A B f n) := qb_of (e_cl_7 A B f n )
theorem b_cl_8  (k : Unit → qP β) : qb (qcl 10 8) k (enc A B f n) = k (()) (enc A B f n) := qb_of (e_cl_8 A B f n )
theorem b_a_9 (i : Int32) (k : Int32 → qP β) : qb (aI 9 i) k (enc A B f n) = if i < 0 ∨ 3 ≤ i.toNatClampNeg then none else k (A 9 i.toNatClampNeg) (enc A B f n) := qb_oi (e_a_9 A B f n i)
theorem b_s_9 (i x : Int32) (k : Unit → qP β) : qb (sI 9 i x) k (enc A B f n) = if i < 0 ∨ 3 ≤ i.toNatClampNeg then none else k (()) (enc (eup A 9 i.toNatClampNeg x) B f n) := qb_oi (e_s_9 A B f n i x)
theorem b_l_9  (k : Int32 → qP β) : qb (aL 9) k (enc A B f n) = k (3) (enc A B f n) := qb_of (e_l_9 A B f n )
theorem b_a_10 (i : Int32) (k : Int32 → qP β) : qb (aI 10 i) k (enc A B f n) = if i < 0 ∨ 3 ≤ i.toNatClampNeg then none else k (A 10 i.toNatClampNeg) (enc A B f n) := qb_oi (e_a_10 A B f n i)
theorem b_s_10 (i x : Int32) (k : Unit → qP β) : qb (sI 10 i x) k (enc A B f n) = if i < 0 ∨ 3 ≤ i.toNatClampNeg then none else k (()) (enc (eup A 10 i.toNatClampNeg x) B f n) := qb_oi (e_s_10 A B f n i x)
theorem b_l_10  (k : Int32 → qP β) : qb (aL 10) k (enc A B f n) = k (3) (enc A B f n) := qb_of (e_l_10 A B f n )
theorem b_a_11 (i : Int32) (k : Int32 → qP β) : qb (aI 11 i) k (enc A B f n) = if i < 0 ∨ 7 ≤ i.toNatClampNeg then none else k (A 11 i.toNatClampNeg) (enc A B f n) := qb_oi (e_a_11 A B f n i)
theorem b_s_11 (i x : Int32) (k : Unit → qP β) : qb (sI 11 i x) k (enc A B f n) = if i < 0 ∨ 7 ≤ i.toNatClampNeg then none else k (()) (enc (eup A 11 i.toNatClampNeg x) B f n) := qb_oi (e_s_11 A B f n i x)
theorem b_l_11  (k : Int32 → qP β) : qb (aL 11) k (enc A B f n) = k (7) (enc A B f n) := qb_of (e_l_11 A B f n )
theorem b_a_12 (i : Int32) (k : Int32 → qP β) : qb (aI 12 i) k (enc A B f n) = if i < 0 ∨ 10 ≤ i.toNatClampNeg then none else k (A 12 i.toNatClampNeg) (enc A B f n) := qb_oi (e_a_12 A B f n i)
theorem b_s_12 (i x : Int32) (k : Unit → qP β) : qb (sI 12 i x) k (enc A B f n) = if i < 0 ∨ 10 ≤ i.toNatClampNeg then none else k (()) (enc (eup A 12 i.toNatClampNeg x) B f n) := qb_oi (e_s_12 A B f n i x)
theorem b_l_12  (k : Int32 → qP β) : qb (aL 12) k (enc A B f n) = k (10) (enc A B f n) := qb_of (e_l_12 A B f n )
theorem b_a_13 (i : Int32) (k : Int32 → qP β) : qb (aI 13 i) k (enc A B f n) = if i < 0 ∨ 120 ≤ i.toNatClampNeg then none else k (A 13 i.toNatClampNeg) (enc A B f n) := qb_oi (e_a_13 A B f n i)
theorem b_s_13 (i x : Int32) (k : Unit → qP β) : qb (sI 13 i x) k (enc A B f n) = if i < 0 ∨ 120 ≤ i.toNatClampNeg then none else k (()) (enc (eup A 13 i.toNatClampNeg x) B f n) := qb_oi (e_s_13 A B f n i x)
theorem b_l_13  (k : Int32 → qP β) : qb (aL 13) k (enc A B f n) = k (120) (enc A B f n) := qb_of (e_l_13 A B f n )
theorem b_cl_14  (k : Unit → qP β) : qb (qcl 0 14) k (enc A B f n) = k (()) (enc A B f n) := qb_of (e_cl_14 A B f n )
theorem b_g_14_0  (k : Nat → qP β) : qb (gR 0 14 0) k (enc A B f n) = k (15) (enc A B f n) := qb_of (e_g_14_0 A B f n )
theorem b_g_14_1  (k : Int32 → qP β) : qb (gI 0 14 1) k (enc A B f n) = k (A 14 1) (enc A B f n) := qb_of (e_g_14_1 A B f n )
theorem b_p_14_1 (x : Int32) (k : Unit → qP β) : qb (pV 0 14 1 (.int x)) k (enc A B f n) = k (()) (enc (eup A 14 1 x) B f n) := qb_of (e_p_14_1 A B f n x)
theorem b_g_14_2  (k : Nat → qP β) : qb (gR 0 14 2) k (enc A B f n) = k (16) (enc A B f n) := qb_of (e_g_14_2 A B f n )
theorem b_g_14_3  (k : Nat → qP β) : qb (gR 0 14 3) k (enc A B f n) = k (17) (enc A B f n) := qb_of (e_g_14_3 A B f n )
theorem b_g_14_4  (k : Nat → qP β) : qb (gR 0 14 4) k (enc A B f n) = k (18) (enc A B f n) := qb_of (e_g_14_4 A B f n )
theorem b_g_14_5  (k : Nat → qP β) : qb (gR 0 14 5) k (enc A B f n) = k (19) (enc A B f n) := qb_of (e_g_14_5 A B f n )
theorem b_a_15 (i : Int32) (k : Int32 → qP β) : qb (aI 15 i) k (enc A B f n) = if i < 0 ∨ 60 ≤ i.toNatClampNeg then none else k (A 15 i.toNatClampNeg) (enc A B f n) := qb_oi (e_a_15 A B f n i)
theorem b_s_15 (i x : Int32) (k : Unit → qP β) : qb (sI 15 i x) k (enc A B f n) = if i < 0 ∨ 60 ≤ i.toNatClampNeg then none else k (()) (enc (eup A 15 i.toNatClampNeg x) B f n) := qb_oi (e_s_15 A B f n i x)
theorem b_l_15  (k : Int32 → qP β) : qb (aL 15) k (enc A B f n) = k (60) (enc A B f n) := qb_of (e_l_15 A B f n )
theorem b_a_16 (i : Int32) (k : Int32 → qP β) : qb (aI 16 i) k (enc A B f n) = if i < 0 ∨ 32 ≤ i.toNatClampNeg then none else k (A 16 i.toNatClampNeg) (enc A B f n) := qb_oi (e_a_16 A B f n i)
theorem b_s_16 (i x : Int32) (k : Unit → qP β) : qb (sI 16 i x) k (enc A B f n) = if i < 0 ∨ 32 ≤ i.toNatClampNeg then none else k (()) (enc (eup A 16 i.toNatClampNeg x) B f n) := qb_oi (e_s_16 A B f n i x)
theorem b_l_16  (k : Int32 → qP β) : qb (aL 16) k (enc A B f n) = k (32) (enc A B f n) := qb_of (e_l_16 A B f n )
theorem b_a_17 (i : Int32) (k : Int32 → qP β) : qb (aI 17 i) k (enc A B f n) = if i < 0 ∨ 4 ≤ i.toNatClampNeg then none else k (A 17 i.toNatClampNeg) (enc A B f n) := qb_oi (e_a_17 A B f n i)
theorem b_s_17 (i x : Int32) (k : Unit → qP β) : qb (sI 17 i x) k (enc A B f n) = if i < 0 ∨ 4 ≤ i.toNatClampNeg then none else k (()) (enc (eup A 17 i.toNatClampNeg x) B f n) := qb_oi (e_s_17 A B f n i x)
theorem b_l_17  (k : Int32 → qP β) : qb (aL 17) k (enc A B f n) = k (4) (enc A B f n) := qb_of (e_l_17 A B f n )
theorem b_a_18 (i : Int32) (k : Int32 → qP β) : qb (aI 18 i) k (enc A B f n) = if i < 0 ∨ 4 ≤ i.toNatClampNeg then none else k (A 18 i.toNatClampNeg) (enc A B f n) := qb_oi (e_a_18 A B f n i)
theorem b_s_18 (i x : Int32) (k : Unit → qP β) : qb (sI 18 i x) k (enc A B f n) = if i < 0 ∨ 4 ≤ i.toNatClampNeg then none else k (()) (enc (eup A 18 i.toNatClampNeg x) B f n) := qb_oi (e_s_18 A B f n i x)
theorem b_l_18  (k : Int32 → qP β) : qb (aL 18) k (enc A B f n) = k (4) (enc A B f n) := qb_of (e_l_18 A B f n )
theorem b_a_19 (i : Int32) (k : Int32 → qP β) : qb (aI 19 i) k (enc A B f n) = if i < 0 ∨ 3 ≤ i.toNatClampNeg then none else k (A 19 i.toNatClampNeg) (enc A B f n) := qb_oi (e_a_19 A B f n i)
theorem b_s_19 (i x : Int32) (k : Unit → qP β) : qb (sI 19 i x) k (enc A B f n) = if i < 0 ∨ 3 ≤ i.toNatClampNeg then none else k (()) (enc (eup A 19 i.toNatClampNeg x) B f n) := qb_oi (e_s_19 A B f n i x)
theorem b_l_19  (k : Int32 → qP β) : qb (aL 19) k (enc A B f n) = k (3) (enc A B f n) := qb_of (e_l_19 A B f n )
theorem b_cl_20  (k : Unit → qP β) : qb (qcl 8 20) k (enc A B f n) = k (()) (enc A B f n) := qb_of (e_cl_20 A B f n )
theorem b_g_20_0  (k : Nat → qP β) : qb (gR 8 20 0) k (enc A B f n) = k (21) (enc A B f n) := qb_of (e_g_20_0 A B f n )
theorem b_g_20_1  (k : Nat → qP β) : qb (gR 8 20 1) k (enc A B f n) = k (22) (enc A B f n) := qb_of (e_g_20_1 A B f n )
theorem b_g_20_2  (k : Nat → qP β) : qb (gR 8 20 2) k (enc A B f n) = k (23) (enc A B f n) := qb_of (e_g_20_2 A B f n )
theorem b_a_21 (i : Int32) (k : Int32 → qP β) : qb (aI 21 i) k (enc A B f n) = if i < 0 ∨ 8 ≤ i.toNatClampNeg then none else k (A 21 i.toNatClampNeg) (enc A B f n) := qb_oi (e_a_21 A B f n i)
theorem b_s_21 (i x : Int32) (k : Unit → qP β) : qb (sI 21 i x) k (enc A B f n) = if i < 0 ∨ 8 ≤ i.toNatClampNeg then none else k (()) (enc (eup A 21 i.toNatClampNeg x) B f n) := qb_oi (e_s_21 A B f n i x)
theorem b_l_21  (k : Int32 → qP β) : qb (aL 21) k (enc A B f n) = k (8) (enc A B f n) := qb_of (e_l_21 A B f n )
theorem b_a_22 (i : Int32) (k : Int32 → qP β) : qb (aI 22 i) k (enc A B f n) = if i < 0 ∨ 2 ≤ i.toNatClampNeg then none else k (A 22 i.toNatClampNeg) (enc A B f n) := qb_oi (e_a_22 A B f n i)
theorem b_s_22 (i x : Int32) (k : Unit → qP β) : qb (sI 22 i x) k (enc A B f n) = if i < 0 ∨ 2 ≤ i.toNatClampNeg then none else k (()) (enc (eup A 22 i.toNatClampNeg x) B f n) := qb_oi (e_s_22 A B f n i x)
theorem b_l_22  (k : Int32 → qP β) : qb (aL 22) k (enc A B f n) = k (2) (enc A B f n) := qb_of (e_l_22 A B f n )
theorem b_a_23 (i : Int32) (k : Int32 → qP β) : qb (aI 23 i) k (enc A B f n) = if i < 0 ∨ 256 ≤ i.toNatClampNeg then none else k (A 23 i.toNatClampNeg) (enc A B f n) := qb_oi (e_a_23 A B f n i)
theorem b_s_23 (i x : Int32) (k : Unit → qP β) : qb (sI 23 i x) k (enc A B f n) = if i < 0 ∨ 256 ≤ i.toNatClampNeg then none else k (()) (enc (eup A 23 i.toNatClampNeg x) B f n) := qb_oi (e_s_23 A B f n i x)
theorem b_l_23  (k : Int32 → qP β) : qb (aL 23) k (enc A B f n) = k (256) (enc A B f n) := qb_of (e_l_23 A B f n )
theorem b_cl_24  (k : Unit → qP β) : qb (qcl 2 24) k (enc A B f n) = k (()) (enc A B f n) := qb_of (e_cl_24 A B f n )
theorem b_g_24_0  (k : Nat → qP β) : qb (gR 2 24 0) k (enc A B f n) = k (25) (enc A B f n) := qb_of (e_g_24_0 A B f n )
theorem b_g_24_1  (k : Nat → qP β) : qb (gR 2 24 1) k (enc A B f n) = k (32) (enc A B f n) := qb_of (e_g_24_1 A B f n )
theorem b_g_24_2  (k : Nat → qP β) : qb (gR 2 24 2) k (enc A B f n) = k (33) (enc A B f n) := qb_of (e_g_24_2 A B f n )
theorem b_g_24_3  (k : Nat → qP β) : qb (gR 2 24 3) k (enc A B f n) = k (34) (enc A B f n) := qb_of (e_g_24_3 A B f n )
theorem b_g_24_4  (k : Int32 → qP β) : qb (gI 2 24 4) k (enc A B f n) = k (A 24 4) (enc A B f n) := qb_of (e_g_24_4 A B f n )
theorem b_p_24_4 (x : Int32) (k : Unit → qP β) : qb (pV 2 24 4 (.int x)) k (enc A B f n) = k (()) (enc (eup A 24 4 x) B f n) := qb_of (e_p_24_4 A B f n x)
theorem b_g_24_5  (k : Int32 → qP β) : qb (gI 2 24 5) k (enc A B f n) = k (A 24 5) (enc A B f n) := qb_of (e_g_24_5 A B f n )
theorem b_p_24_5 (x : Int32) (k : Unit → qP β) : qb (pV 2 24 5 (.int x)) k (enc A B f n) = k (()) (enc (eup A 24 5 x) B f n) := qb_of (e_p_24_5 A B f n x)
theorem b_g_24_6  (k : Nat → qP β) : qb (gR 2 24 6) k (enc A B f n) = k (35) (enc A B f n) := qb_of (e_g_24_6 A B f n )
theorem b_g_24_7  (k : Nat → qP β) : qb (gR 2 24 7) k (enc A B f n) = k (36) (enc A B f n) := qb_of (e_g_24_7 A B f n )
theorem b_g_24_8  (k : Int32 → qP β) : qb (gI 2 24 8) k (enc A B f n) = k (A 24 8) (enc A B f n) := qb_of (e_g_24_8 A B f n )
theorem b_p_24_8 (x : Int32) (k : Unit → qP β) : qb (pV 2 24 8 (.int x)) k (enc A B f n) = k (()) (enc (eup A 24 8 x) B f n) := qb_of (e_p_24_8 A B f n x)
theorem b_g_24_9  (k : Nat → qP β) : qb (gR 2 24 9) k (enc A B f n) = k (37) (enc A B f n) := qb_of (e_g_24_9 A B f n )
theorem b_g_24_10  (k : Nat → qP β) : qb (gR 2 24 10) k (enc A B f n) = k (43) (enc A B f n) := qb_of (e_g_24_10 A B f n )
theorem b_q_25 (i : Int32) (k : Option Nat → qP β) : qb (aQ 0 25 i) k (enc A B f n) = if i < 0 ∨ 6 ≤ i.toNatClampNeg then none else k ((ekf 25) i.toNatClampNeg) (enc A B f n) := qb_oi (e_q_25 A B f n i)
theorem b_l_25  (k : Int32 → qP β) : qb (aL 25) k (enc A B f n) = k (6) (enc A B f n) := qb_of (e_l_25 A B f n )
theorem b_cl_26  (k : Unit → qP β) : qb (qcl 5 26) k (enc A B f n) = k (()) (enc A B f n) := qb_of (e_cl_26 A B f n )
theorem b_cl_27  (k : Unit → qP β) : qb (qcl 7 27) k (enc A B f n) = k (()) (enc A B f n) := qb_of (e_cl_27 A B f n )
theorem b_cl_28  (k : Unit → qP β) : qb (qcl 6 28) k (enc A B f n) = k (()) (enc A B f n) := qb_of (e_cl_28 A B f n )
theorem b_cl_29  (k : Unit → qP β) : qb (qcl 1 29) k (enc A B f n) = k (()) (enc A B f n) := qb_of (e_cl_29 A B f n )
theorem b_cl_30  (k : Unit → qP β) : qb (qcl 9 30) k (enc A B f n) = k (()) (enc A B f n) := qb_of (e_cl_30 A B f n )
theorem b_cl_31  (k : Unit → qP β) : qb (qcl 10 31) k (enc A B f n) = k (()) (enc A B f n) := qb_of (e_cl_31 A B f n )
theorem b_a_32 (i : Int32) (k : Int32 → qP β) : qb (aI 32 i) k (enc A B f n) = if i < 0 ∨ 3 ≤ i.toNatClampNeg then none else k (A 32 i.toNatClampNeg) (enc A B f n) := qb_oi (e_a_32 A B f n i)
theorem b_s_32 (i x : Int32) (k : Unit → qP β) : qb (sI 32 i x) k (enc A B f n) = if i < 0 ∨ 3 ≤ i.toNatClampNeg then none else k (()) (enc (eup A 32 i.toNatClampNeg x) B f n) := qb_oi (e_s_32 A B f n i x)
theorem b_l_32  (k : Int32 → qP β) : qb (aL 32) k (enc A B f n) = k (3) (enc A B f n) := qb_of (e_l_32 A B f n )
theorem b_a_33 (i : Int32) (k : Int32 → qP β) : qb (aI 33 i) k (enc A B f n) = if i < 0 ∨ 3 ≤ i.toNatClampNeg then none else k (A 33 i.toNatClampNeg) (enc A B f n) := qb_oi (e_a_33 A B f n i)
theorem b_s_33 (i x : Int32) (k : Unit → qP β) : qb (sI 33 i x) k (enc A B f n) = if i < 0 ∨ 3 ≤ i.toNatClampNeg then none else k (()) (enc (eup A 33 i.toNatClampNeg x) B f n) := qb_oi (e_s_33 A B f n i x)
theorem b_l_33  (k : Int32 → qP β) : qb (aL 33) k (enc A B f n) = k (3) (enc A B f n) := qb_of (e_l_33 A B f n )
theorem b_a_34 (i : Int32) (k : Int32 → qP β) : qb (aI 34 i) k (enc A B f n) = if i < 0 ∨ 7 ≤ i.toNatClampNeg then none else k (A 34 i.toNatClampNeg) (enc A B f n) := qb_oi (e_a_34 A B f n i)
theorem b_s_34 (i x : Int32) (k : Unit → qP β) : qb (sI 34 i x) k (enc A B f n) = if i < 0 ∨ 7 ≤ i.toNatClampNeg then none else k (()) (enc (eup A 34 i.toNatClampNeg x) B f n) := qb_oi (e_s_34 A B f n i x)
theorem b_l_34  (k : Int32 → qP β) : qb (aL 34) k (enc A B f n) = k (7) (enc A B f n) := qb_of (e_l_34 A B f n )
theorem b_a_35 (i : Int32) (k : Int32 → qP β) : qb (aI 35 i) k (enc A B f n) = if i < 0 ∨ 10 ≤ i.toNatClampNeg then none else k (A 35 i.toNatClampNeg) (enc A B f n) := qb_oi (e_a_35 A B f n i)
theorem b_s_35 (i x : Int32) (k : Unit → qP β) : qb (sI 35 i x) k (enc A B f n) = if i < 0 ∨ 10 ≤ i.toNatClampNeg then none else k (()) (enc (eup A 35 i.toNatClampNeg x) B f n) := qb_oi (e_s_35 A B f n i x)
theorem b_l_35  (k : Int32 → qP β) : qb (aL 35) k (enc A B f n) = k (10) (enc A B f n) := qb_of (e_l_35 A B f n )
theorem b_a_36 (i : Int32) (k : Int32 → qP β) : qb (aI 36 i) k (enc A B f n) = if i < 0 ∨ 120 ≤ i.toNatClampNeg then none else k (A 36 i.toNatClampNeg) (enc A B f n) := qb_oi (e_a_36 A B f n i)
theorem b_s_36 (i x : Int32) (k : Unit → qP β) : qb (sI 36 i x) k (enc A B f n) = if i < 0 ∨ 120 ≤ i.toNatClampNeg then none else k (()) (enc (eup A 36 i.toNatClampNeg x) B f n) := qb_oi (e_s_36 A B f n i x)
theorem b_l_36  (k : Int32 → qP β) : qb (aL 36) k (enc A B f n) = k (120) (enc A B f n) := qb_of (e_l_36 A B f n )
theorem b_cl_37  (k : Unit → qP β) : qb (qcl 0 37) k (enc A B f n) = k (()) (enc A B f n) := qb_of (e_cl_37 A B f n )
theorem b_g_37_0  (k : Nat → qP β) : qb (gR 0 37 0) k (enc A B f n) = k (38) (enc A B f n) := qb_of (e_g_37_0 A B f n )
theorem b_g_37_1  (k : Int32 → qP β) : qb (gI 0 37 1) k (enc A B f n) = k (A 37 1) (enc A B f n) := qb_of (e_g_37_1 A B f n )
theorem b_p_37_1 (x : Int32) (k : Unit → qP β) : qb (pV 0 37 1 (.int x)) k (enc A B f n) = k (()) (enc (eup A 37 1 x) B f n) := qb_of (e_p_37_1 A B f n x)
theorem b_g_37_2  (k : Nat → qP β) : qb (gR 0 37 2) k (enc A B f n) = k (39) (enc A B f n) := qb_of (e_g_37_2 A B f n )
theorem b_g_37_3  (k : Nat → qP β) : qb (gR 0 37 3) k (enc A B f n) = k (40) (enc A B f n) := qb_of (e_g_37_3 A B f n )
theorem b_g_37_4  (k : Nat → qP β) : qb (gR 0 37 4) k (enc A B f n) = k (41) (enc A B f n) := qb_of (e_g_37_4 A B f n )
theorem b_g_37_5  (k : Nat → qP β) : qb (gR 0 37 5) k (enc A B f n) = k (42) (enc A B f n) := qb_of (e_g_37_5 A B f n )
theorem b_a_38 (i : Int32) (k : Int32 → qP β) : qb (aI 38 i) k (enc A B f n) = if i < 0 ∨ 60 ≤ i.toNatClampNeg then none else k (A 38 i.toNatClampNeg) (enc A B f n) := qb_oi (e_a_38 A B f n i)
theorem b_s_38 (i x : Int32) (k : Unit → qP β) : qb (sI 38 i x) k (enc A B f n) = if i < 0 ∨ 60 ≤ i.toNatClampNeg then none else k (()) (enc (eup A 38 i.toNatClampNeg x) B f n) := qb_oi (e_s_38 A B f n i x)
theorem b_l_38  (k : Int32 → qP β) : qb (aL 38) k (enc A B f n) = k (60) (enc A B f n) := qb_of (e_l_38 A B f n )
theorem b_a_39 (i : Int32) (k : Int32 → qP β) : qb (aI 39 i) k (enc A B f n) = if i < 0 ∨ 32 ≤ i.toNatClampNeg then none else k (A 39 i.toNatClampNeg) (enc A B f n) := qb_oi (e_a_39 A B f n i)
theorem b_s_39 (i x : Int32) (k : Unit → qP β) : qb (sI 39 i x) k (enc A B f n) = if i < 0 ∨ 32 ≤ i.toNatClampNeg then none else k (()) (enc (eup A 39 i.toNatClampNeg x) B f n) := qb_oi (e_s_39 A B f n i x)
theorem b_l_39  (k : Int32 → qP β) : qb (aL 39) k (enc A B f n) = k (32) (enc A B f n) := qb_of (e_l_39 A B f n )
theorem b_a_40 (i : Int32) (k : Int32 → qP β) : qb (aI 40 i) k (enc A B f n) = if i < 0 ∨ 4 ≤ i.toNatClampNeg then none else k (A 40 i.toNatClampNeg) (enc A B f n) := qb_oi (e_a_40 A B f n i)
theorem b_s_40 (i x : Int32) (k : Unit → qP β) : qb (sI 40 i x) k (enc A B f n) = if i < 0 ∨ 4 ≤ i.toNatClampNeg then none else k (()) (enc (eup A 40 i.toNatClampNeg x) B f n) := qb_oi (e_s_40 A B f n i x)
theorem b_l_40  (k : Int32 → qP β) : qb (aL 40) k (enc A B f n) = k (4) (enc A B f n) := qb_of (e_l_40 A B f n )
theorem b_a_41 (i : Int32) (k : Int32 → qP β) : qb (aI 41 i) k (enc A B f n) = if i < 0 ∨ 4 ≤ i.toNatClampNeg then none else k (A 41 i.toNatClampNeg) (enc A B f n) := qb_oi (e_a_41 A B f n i)
theorem b_s_41 (i x : Int32) (k : Unit → qP β) : qb (sI 41 i x) k (enc A B f n) = if i < 0 ∨ 4 ≤ i.toNatClampNeg then none else k (()) (enc (eup A 41 i.toNatClampNeg x) B f n) := qb_oi (e_s_41 A B f n i x)
theorem b_l_41  (k : Int32 → qP β) : qb (aL 41) k (enc A B f n) = k (4) (enc A B f n) := qb_of (e_l_41 A B f n )
theorem b_a_42 (i : Int32) (k : Int32 → qP β) : qb (aI 42 i) k (enc A B f n) = if i < 0 ∨ 3 ≤ i.toNatClampNeg then none else k (A 42 i.toNatClampNeg) (enc A B f n) := qb_oi (e_a_42 A B f n i)
theorem b_s_42 (i x : Int32) (k : Unit → qP β) : qb (sI 42 i x) k (enc A B f n) = if i < 0 ∨ 3 ≤ i.toNatClampNeg then none else k (()) (enc (eup A 42 i.toNatClampNeg x) B f n) := qb_oi (e_s_42 A B f n i x)
theorem b_l_42  (k : Int32 → qP β) : qb (aL 42) k (enc A B f n) = k (3) (enc A B f n) := qb_of (e_l_42 A B f n )
theorem b_cl_43  (k : Unit → qP β) : qb (qcl 8 43) k (enc A B f n) = k (()) (enc A B f n) := qb_of (e_cl_43 A B f n )
theorem b_g_43_0  (k : Nat → qP β) : qb (gR 8 43 0) k (enc A B f n) = k (44) (enc A B f n) := qb_of (e_g_43_0 A B f n )
theorem b_g_43_1  (k : Nat → qP β) : qb (gR 8 43 1) k (enc A B f n) = k (45) (enc A B f n) := qb_of (e_g_43_1 A B f n )
theorem b_g_43_2  (k : Nat → qP β) : qb (gR 8 43 2) k (enc A B f n) = k (46) (enc A B f n) := qb_of (e_g_43_2 A B f n )
theorem b_a_44 (i : Int32) (k : Int32 → qP β) : qb (aI 44 i) k (enc A B f n) = if i < 0 ∨ 8 ≤ i.toNatClampNeg then none else k (A 44 i.toNatClampNeg) (enc A B f n) := qb_oi (e_a_44 A B f n i)
theorem b_s_44 (i x : Int32) (k : Unit → qP β) : qb (sI 44 i x) k (enc A B f n) = if i < 0 ∨ 8 ≤ i.toNatClampNeg then none else k (()) (enc (eup A 44 i.toNatClampNeg x) B f n) := qb_oi (e_s_44 A B f n i x)
theorem b_l_44  (k : Int32 → qP β) : qb (aL 44) k (enc A B f n) = k (8) (enc A B f n) := qb_of (e_l_44 A B f n )
theorem b_a_45 (i : Int32) (k : Int32 → qP β) : qb (aI 45 i) k (enc A B f n) = if i < 0 ∨ 2 ≤ i.toNatClampNeg then none else k (A 45 i.toNatClampNeg) (enc A B f n) := qb_oi (e_a_45 A B f n i)
theorem b_s_45 (i x : Int32) (k : Unit → qP β) : qb (sI 45 i x) k (enc A B f n) = if i < 0 ∨ 2 ≤ i.toNatClampNeg then none else k (()) (enc (eup A 45 i.toNatClampNeg x) B f n) := qb_oi (e_s_45 A B f n i x)
theorem b_l_45  (k : Int32 → qP β) : qb (aL 45) k (enc A B f n) = k (2) (enc A B f n) := qb_of (e_l_45 A B f n )
theorem b_a_46 (i : Int32) (k : Int32 → qP β) : qb (aI 46 i) k (enc A B f n) = if i < 0 ∨ 256 ≤ i.toNatClampNeg then none else k (A 46 i.toNatClampNeg) (enc A B f n) := qb_oi (e_a_46 A B f n i)
theorem b_s_46 (i x : Int32) (k : Unit → qP β) : qb (sI 46 i x) k (enc A B f n) = if i < 0 ∨ 256 ≤ i.toNatClampNeg then none else k (()) (enc (eup A 46 i.toNatClampNeg x) B f n) := qb_oi (e_s_46 A B f n i x)
theorem b_l_46  (k : Int32 → qP β) : qb (aL 46) k (enc A B f n) = k (256) (enc A B f n) := qb_of (e_l_46 A B f n )
theorem b_q_47 (i : Int32) (k : Option Nat → qP β) : qb (aQ 1 47 i) k (enc A B f n) = if i < 0 ∨ 2 ≤ i.toNatClampNeg then none else k ((f) i.toNatClampNeg) (enc A B f n) := qb_oi (e_q_47 A B f n i)
theorem b_l_47  (k : Int32 → qP β) : qb (aL 47) k (enc A B f n) = k (2) (enc A B f n) := qb_of (e_l_47 A B f n )
theorem b_cl_48  (k : Unit → qP β) : qb (qcl 4 48) k (enc A B f n) = k (()) (enc A B f n) := qb_of (e_cl_48 A B f n )
theorem b_g_48_0  (k : Nat → qP β) : qb (gR 4 48 0) k (enc A B f n) = k (49) (enc A B f n) := qb_of (e_g_48_0 A B f n )
theorem b_g_48_1  (k : Nat → qP β) : qb (gR 4 48 1) k (enc A B f n) = k (56) (enc A B f n) := qb_of (e_g_48_1 A B f n )
theorem b_g_48_2  (k : Nat → qP β) : qb (gR 4 48 2) k (enc A B f n) = k (57) (enc A B f n) := qb_of (e_g_48_2 A B f n )
theorem b_g_48_3  (k : Nat → qP β) : qb (gR 4 48 3) k (enc A B f n) = k (58) (enc A B f n) := qb_of (e_g_48_3 A B f n )
theorem b_g_48_4  (k : Int32 → qP β) : qb (gI 4 48 4) k (enc A B f n) = k (A 48 4) (enc A B f n) := qb_of (e_g_48_4 A B f n )
theorem b_p_48_4 (x : Int32) (k : Unit → qP β) : qb (pV 4 48 4 (.int x)) k (enc A B f n) = k (()) (enc (eup A 48 4 x) B f n) := qb_of (e_p_48_4 A B f n x)
theorem b_g_48_5  (k : Int32 → qP β) : qb (gI 4 48 5) k (enc A B f n) = k (A 48 5) (enc A B f n) := qb_of (e_g_48_5 A B f n )
theorem b_p_48_5 (x : Int32) (k : Unit → qP β) : qb (pV 4 48 5 (.int x)) k (enc A B f n) = k (()) (enc (eup A 48 5 x) B f n) := qb_of (e_p_48_5 A B f n x)
theorem b_g_48_6  (k : Int32 → qP β) : qb (gI 4 48 6) k (enc A B f n) = k (A 48 6) (enc A B f n) := qb_of (e_g_48_6 A B f n )
theorem b_p_48_6 (x : Int32) (k : Unit → qP β) : qb (pV 4 48 6 (.int x)) k (enc A B f n) = k (()) (enc (eup A 48 6 x) B f n) := qb_of (e_p_48_6 A B f n x)
theorem b_g_48_7  (k : Int32 → qP β) : qb (gI 4 48 7) k (enc A B f n) = k (A 48 7) (enc A B f n) := qb_of (e_g_48_7 A B f n )
theorem b_p_48_7 (x : Int32) (k : Unit → qP β) : qb (pV 4 48 7 (.int x)) k (enc A B f n) = k (()) (enc (eup A 48 7 x) B f n) := qb_of (e_p_48_7 A B f n x)
theorem b_g_48_8  (k : Int32 → qP β) : qb (gI 4 48 8) k (enc A B f n) = k (A 48 8) (enc A B f n) := qb_of (e_g_48_8 A B f n )
theorem b_p_48_8 (x : Int32) (k : Unit → qP β) : qb (pV 4 48 8 (.int x)) k (enc A B f n) = k (()) (enc (eup A 48 8 x) B f n) := qb_of (e_p_48_8 A B f n x)
theorem b_g_48_9  (k : Int32 → qP β) : qb (gI 4 48 9) k (enc A B f n) = k (A 48 9) (enc A B f n) := qb_of (e_g_48_9 A B f n )
theorem b_p_48_9 (x : Int32) (k : Unit → qP β) : qb (pV 4 48 9 (.int x)) k (enc A B f n) = k (()) (enc (eup A 48 9 x) B f n) := qb_of (e_p_48_9 A B f n x)
theorem b_g_48_10  (k : Int32 → qP β) : qb (gI 4 48 10) k (enc A B f n) = k (A 48 10) (enc A B f n) := qb_of (e_g_48_10 A B f n )
theorem b_p_48_10 (x : Int32) (k : Unit → qP β) : qb (pV 4 48 10 (.int x)) k (enc A B f n) = k (()) (enc (eup A 48 10 x) B f n) := qb_of (e_p_48_10 A B f n x)
theorem b_q_49 (i : Int32) (k : Option Nat → qP β) : qb (aQ 2 49 i) k (enc A B f n) = if i < 0 ∨ 6 ≤ i.toNatClampNeg then none else k ((erf) i.toNatClampNeg) (enc A B f n) := qb_oi (e_q_49 A B f n i)
theorem b_l_49  (k : Int32 → qP β) : qb (aL 49) k (enc A B f n) = k (6) (enc A B f n) := qb_of (e_l_49 A B f n )
theorem b_a_50 (i : Int32) (k : Int32 → qP β) : qb (aI 50 i) k (enc A B f n) = if i < 0 ∨ 10 ≤ i.toNatClampNeg then none else k (A 50 i.toNatClampNeg) (enc A B f n) := qb_oi (e_a_50 A B f n i)
theorem b_s_50 (i x : Int32) (k : Unit → qP β) : qb (sI 50 i x) k (enc A B f n) = if i < 0 ∨ 10 ≤ i.toNatClampNeg then none else k (()) (enc (eup A 50 i.toNatClampNeg x) B f n) := qb_oi (e_s_50 A B f n i x)
theorem b_l_50  (k : Int32 → qP β) : qb (aL 50) k (enc A B f n) = k (10) (enc A B f n) := qb_of (e_l_50 A B f n )
theorem b_a_51 (i : Int32) (k : Int32 → qP β) : qb (aI 51 i) k (enc A B f n) = if i < 0 ∨ 10 ≤ i.toNatClampNeg then none else k (A 51 i.toNatClampNeg) (enc A B f n) := qb_oi (e_a_51 A B f n i)
theorem b_s_51 (i x : Int32) (k : Unit → qP β) : qb (sI 51 i x) k (enc A B f n) = if i < 0 ∨ 10 ≤ i.toNatClampNeg then none else k (()) (enc (eup A 51 i.toNatClampNeg x) B f n) := qb_oi (e_s_51 A B f n i x)
theorem b_l_51  (k : Int32 → qP β) : qb (aL 51) k (enc A B f n) = k (10) (enc A B f n) := qb_of (e_l_51 A B f n )
theorem b_a_52 (i : Int32) (k : Int32 → qP β) : qb (aI 52 i) k (enc A B f n) = if i < 0 ∨ 10 ≤ i.toNatClampNeg then none else k (A 52 i.toNatClampNeg) (enc A B f n) := qb_oi (e_a_52 A B f n i)
theorem b_s_52 (i x : Int32) (k : Unit → qP β) : qb (sI 52 i x) k (enc A B f n) = if i < 0 ∨ 10 ≤ i.toNatClampNeg then none else k (()) (enc (eup A 52 i.toNatClampNeg x) B f n) := qb_oi (e_s_52 A B f n i x)
theorem b_l_52  (k : Int32 → qP β) : qb (aL 52) k (enc A B f n) = k (10) (enc A B f n) := qb_of (e_l_52 A B f n )
theorem b_a_53 (i : Int32) (k : Int32 → qP β) : qb (aI 53 i) k (enc A B f n) = if i < 0 ∨ 10 ≤ i.toNatClampNeg then none else k (A 53 i.toNatClampNeg) (enc A B f n) := qb_oi (e_a_53 A B f n i)
theorem b_s_53 (i x : Int32) (k : Unit → qP β) : qb (sI 53 i x) k (enc A B f n) = if i < 0 ∨ 10 ≤ i.toNatClampNeg then none else k (()) (enc (eup A 53 i.toNatClampNeg x) B f n) := qb_oi (e_s_53 A B f n i x)
theorem b_l_53  (k : Int32 → qP β) : qb (aL 53) k (enc A B f n) = k (10) (enc A B f n) := qb_of (e_l_53 A B f n )
theorem b_a_54 (i : Int32) (k : Int32 → qP β) : qb (aI 54 i) k (enc A B f n) = if i < 0 ∨ 10 ≤ i.toNatClampNeg then none else k (A 54 i.toNatClampNeg) (enc A B f n) := qb_oi (e_a_54 A B f n i)
theorem b_s_54 (i x : Int32) (k : Unit → qP β) : qb (sI 54 i x) k (enc A B f n) = if i < 0 ∨ 10 ≤ i.toNatClampNeg then none else k (()) (enc (eup A 54 i.toNatClampNeg x) B f n) := qb_oi (e_s_54 A B f n i x)
theorem b_l_54  (k : Int32 → qP β) : qb (aL 54) k (enc A B f n) = k (10) (enc A B f n) := qb_of (e_l_54 A B f n )
theorem b_a_55 (i : Int32) (k : Int32 → qP β) : qb (aI 55 i) k (enc A B f n) = if i < 0 ∨ 10 ≤ i.toNatClampNeg then none else k (A 55 i.toNatClampNeg) (enc A B f n) := qb_oi (e_a_55 A B f n i)
theorem b_s_55 (i x : Int32) (k : Unit → qP β) : qb (sI 55 i x) k (enc A B f n) = if i < 0 ∨ 10 ≤ i.toNatClampNeg then none else k (()) (enc (eup A 55 i.toNatClampNeg x) B f n) := qb_oi (e_s_55 A B f n i x)
theorem b_l_55  (k : Int32 → qP β) : qb (aL 55) k (enc A B f n) = k (10) (enc A B f n) := qb_of (e_l_55 A B f n )
theorem b_a_56 (i : Int32) (k : Int32 → qP β) : qb (aI 56 i) k (enc A B f n) = if i < 0 ∨ 5 ≤ i.toNatClampNeg then none else k (A 56 i.toNatClampNeg) (enc A B f n) := qb_oi (e_a_56 A B f n i)
theorem b_s_56 (i x : Int32) (k : Unit → qP β) : qb (sI 56 i x) k (enc A B f n) = if i < 0 ∨ 5 ≤ i.toNatClampNeg then none else k (()) (enc (eup A 56 i.toNatClampNeg x) B f n) := qb_oi (e_s_56 A B f n i x)
theorem b_l_56  (k : Int32 → qP β) : qb (aL 56) k (enc A B f n) = k (5) (enc A B f n) := qb_of (e_l_56 A B f n )
theorem b_a_57 (i : Int32) (k : Int32 → qP β) : qb (aI 57 i) k (enc A B f n) = if i < 0 ∨ 5 ≤ i.toNatClampNeg then none else k (A 57 i.toNatClampNeg) (enc A B f n) := qb_oi (e_a_57 A B f n i)
theorem b_s_57 (i x : Int32) (k : Unit → qP β) : qb (sI 57 i x) k (enc A B f n) = if i < 0 ∨ 5 ≤ i.toNatClampNeg then none else k (()) (enc (eup A 57 i.toNatClampNeg x) B f n) := qb_oi (e_s_57 A B f n i x)
theorem b_l_57  (k : Int32 → qP β) : qb (aL 57) k (enc A B f n) = k (5) (enc A B f n) := qb_of (e_l_57 A B f n )
theorem b_a_58 (i : Int32) (k : Int32 → qP β) : qb (aI 58 i) k (enc A B f n) = if i < 0 ∨ 4 ≤ i.toNatClampNeg then none else k (A 58 i.toNatClampNeg) (enc A B f n) := qb_oi (e_a_58 A B f n i)
theorem b_s_58 (i x : Int32) (k : Unit → qP β) : qb (sI 58 i x) k (enc A B f n) = if i < 0 ∨ 4 ≤ i.toNatClampNeg then none else k (()) (enc (eup A 58 i.toNatClampNeg x) B f n) := qb_oi (e_s_58 A B f n i x)
theorem b_l_58  (k : Int32 → qP β) : qb (aL 58) k (enc A B f n) = k (4) (enc A B f n) := qb_of (e_l_58 A B f n )
theorem b_cl_59  (k : Unit → qP β) : qb (qcl 3 59) k (enc A B f n) = k (()) (enc A B f n) := qb_of (e_cl_59 A B f n )
theorem b_g_59_0  (k : Nat → qP β) : qb (gR 3 59 0) k (enc A B f n) = k (60) (enc A B f n) := qb_of (e_g_59_0 A B f n )
theorem b_g_59_1  (k : Int32 → qP β) : qb (gI 3 59 1) k (enc A B f n) = k (A 59 1) (enc A B f n) := qb_of (e_g_59_1 A B f n )
theorem b_p_59_1 (x : Int32) (k : Unit → qP β) : qb (pV 3 59 1 (.int x)) k (enc A B f n) = k (()) (enc (eup A 59 1 x) B f n) := qb_of (e_p_59_1 A B f n x)
theorem b_g_59_2  (k : Int32 → qP β) : qb (gI 3 59 2) k (enc A B f n) = k (A 59 2) (enc A B f n) := qb_of (e_g_59_2 A B f n )
theorem b_p_59_2 (x : Int32) (k : Unit → qP β) : qb (pV 3 59 2 (.int x)) k (enc A B f n) = k (()) (enc (eup A 59 2 x) B f n) := qb_of (e_p_59_2 A B f n x)
theorem b_g_59_3  (k : Int32 → qP β) : qb (gI 3 59 3) k (enc A B f n) = k (A 59 3) (enc A B f n) := qb_of (e_g_59_3 A B f n )
theorem b_p_59_3 (x : Int32) (k : Unit → qP β) : qb (pV 3 59 3 (.int x)) k (enc A B f n) = k (()) (enc (eup A 59 3 x) B f n) := qb_of (e_p_59_3 A B f n x)
theorem b_g_59_4  (k : Int32 → qP β) : qb (gI 3 59 4) k (enc A B f n) = k (A 59 4) (enc A B f n) := qb_of (e_g_59_4 A B f n )
theorem b_p_59_4 (x : Int32) (k : Unit → qP β) : qb (pV 3 59 4 (.int x)) k (enc A B f n) = k (()) (enc (eup A 59 4 x) B f n) := qb_of (e_p_59_4 A B f n x)
theorem b_g_59_5  (k : Int32 → qP β) : qb (gI 3 59 5) k (enc A B f n) = k (A 59 5) (enc A B f n) := qb_of (e_g_59_5 A B f n )
theorem b_p_59_5 (x : Int32) (k : Unit → qP β) : qb (pV 3 59 5 (.int x)) k (enc A B f n) = k (()) (enc (eup A 59 5 x) B f n) := qb_of (e_p_59_5 A B f n x)
theorem b_g_59_6  (k : Int32 → qP β) : qb (gI 3 59 6) k (enc A B f n) = k (A 59 6) (enc A B f n) := qb_of (e_g_59_6 A B f n )
theorem b_p_59_6 (x : Int32) (k : Unit → qP β) : qb (pV 3 59 6 (.int x)) k (enc A B f n) = k (()) (enc (eup A 59 6 x) B f n) := qb_of (e_p_59_6 A B f n x)
theorem b_g_59_7  (k : Int32 → qP β) : qb (gI 3 59 7) k (enc A B f n) = k (A 59 7) (enc A B f n) := qb_of (e_g_59_7 A B f n )
theorem b_p_59_7 (x : Int32) (k : Unit → qP β) : qb (pV 3 59 7 (.int x)) k (enc A B f n) = k (()) (enc (eup A 59 7 x) B f n) := qb_of (e_p_59_7 A B f n x)
theorem b_g_59_8  (k : Int32 → qP β) : qb (gI 3 59 8) k (enc A B f n) = k (A 59 8) (enc A B f n) := qb_of (e_g_59_8 A B f n )
theorem b_p_59_8 (x : Int32) (k : Unit → qP β) : qb (pV 3 59 8 (.int x)) k (enc A B f n) = k (()) (enc (eup A 59 8 x) B f n) := qb_of (e_p_59_8 A B f n x)
theorem b_g_59_9  (k : Int32 → qP β) : qb (gI 3 59 9) k (enc A B f n) = k (A 59 9) (enc A B f n) := qb_of (e_g_59_9 A B f n )
theorem b_p_59_9 (x : Int32) (k : Unit → qP β) : qb (pV 3 59 9 (.int x)) k (enc A B f n) = k (()) (enc (eup A 59 9 x) B f n) := qb_of (e_p_59_9 A B f n x)
theorem b_g_59_10  (k : Int32 → qP β) : qb (gI 3 59 10) k (enc A B f n) = k (A 59 10) (enc A B f n) := qb_of (e_g_59_10 A B f n )
theorem b_p_59_10 (x : Int32) (k : Unit → qP β) : qb (pV 3 59 10 (.int x)) k (enc A B f n) = k (()) (enc (eup A 59 10 x) B f n) := qb_of (e_p_59_10 A B f n x)
theorem b_g_59_11  (k : Int32 → qP β) : qb (gI 3 59 11) k (enc A B f n) = k (A 59 11) (enc A B f n) := qb_of (e_g_59_11 A B f n )
theorem b_p_59_11 (x : Int32) (k : Unit → qP β) : qb (pV 3 59 11 (.int x)) k (enc A B f n) = k (()) (enc (eup A 59 11 x) B f n) := qb_of (e_p_59_11 A B f n x)
theorem b_a_60 (i : Int32) (k : Int32 → qP β) : qb (aI 60 i) k (enc A B f n) = if i < 0 ∨ 200 ≤ i.toNatClampNeg then none else k (A 60 i.toNatClampNeg) (enc A B f n) := qb_oi (e_a_60 A B f n i)
theorem b_s_60 (i x : Int32) (k : Unit → qP β) : qb (sI 60 i x) k (enc A B f n) = if i < 0 ∨ 200 ≤ i.toNatClampNeg then none else k (()) (enc (eup A 60 i.toNatClampNeg x) B f n) := qb_oi (e_s_60 A B f n i x)
theorem b_l_60  (k : Int32 → qP β) : qb (aL 60) k (enc A B f n) = k (200) (enc A B f n) := qb_of (e_l_60 A B f n )
theorem b_cl_61  (k : Unit → qP β) : qb (qcl 12 61) k (enc A B f n) = k (()) (enc A B f n) := qb_of (e_cl_61 A B f n )
theorem b_g_61_0  (k : Nat → qP β) : qb (gR 12 61 0) k (enc A B f n) = k (62) (enc A B f n) := qb_of (e_g_61_0 A B f n )
theorem b_g_61_1  (k : Nat → qP β) : qb (gR 12 61 1) k (enc A B f n) = k (63) (enc A B f n) := qb_of (e_g_61_1 A B f n )
theorem b_g_61_2  (k : Nat → qP β) : qb (gR 12 61 2) k (enc A B f n) = k (64) (enc A B f n) := qb_of (e_g_61_2 A B f n )
theorem b_g_61_3  (k : Nat → qP β) : qb (gR 12 61 3) k (enc A B f n) = k (65) (enc A B f n) := qb_of (e_g_61_3 A B f n )
theorem b_g_61_4  (k : Nat → qP β) : qb (gR 12 61 4) k (enc A B f n) = k (66) (enc A B f n) := qb_of (e_g_61_4 A B f n )
theorem b_g_61_5  (k : Int32 → qP β) : qb (gI 12 61 5) k (enc A B f n) = k (A 61 5) (enc A B f n) := qb_of (e_g_61_5 A B f n )
theorem b_p_61_5 (x : Int32) (k : Unit → qP β) : qb (pV 12 61 5 (.int x)) k (enc A B f n) = k (()) (enc (eup A 61 5 x) B f n) := qb_of (e_p_61_5 A B f n x)
theorem b_g_61_6  (k : Int64 → qP β) : qb (gL 12 61 6) k (enc A B f n) = k (B 61 6) (enc A B f n) := qb_of (e_g_61_6 A B f n )
theorem b_p_61_6 (x : Int64) (k : Unit → qP β) : qb (pV 12 61 6 (.long x)) k (enc A B f n) = k (()) (enc A (eupB B 61 6 x) f n) := qb_of (e_p_61_6 A B f n x)
theorem b_g_61_7  (k : Int64 → qP β) : qb (gL 12 61 7) k (enc A B f n) = k (B 61 7) (enc A B f n) := qb_of (e_g_61_7 A B f n )
theorem b_p_61_7 (x : Int64) (k : Unit → qP β) : qb (pV 12 61 7 (.long x)) k (enc A B f n) = k (()) (enc A (eupB B 61 7 x) f n) := qb_of (e_p_61_7 A B f n x)
theorem b_g_61_8  (k : Nat → qP β) : qb (gR 12 61 8) k (enc A B f n) = k (67) (enc A B f n) := qb_of (e_g_61_8 A B f n )
theorem b_g_61_9  (k : Nat → qP β) : qb (gR 12 61 9) k (enc A B f n) = k (68) (enc A B f n) := qb_of (e_g_61_9 A B f n )
theorem b_g_61_10  (k : Nat → qP β) : qb (gR 12 61 10) k (enc A B f n) = k (69) (enc A B f n) := qb_of (e_g_61_10 A B f n )
theorem b_g_61_11  (k : Nat → qP β) : qb (gR 12 61 11) k (enc A B f n) = k (70) (enc A B f n) := qb_of (e_g_61_11 A B f n )
theorem b_g_61_12  (k : Nat → qP β) : qb (gR 12 61 12) k (enc A B f n) = k (71) (enc A B f n) := qb_of (e_g_61_12 A B f n )
theorem b_g_61_13  (k : Nat → qP β) : qb (gR 12 61 13) k (enc A B f n) = k (72) (enc A B f n) := qb_of (e_g_61_13 A B f n )
theorem b_g_61_14  (k : Int32 → qP β) : qb (gI 12 61 14) k (enc A B f n) = k (A 61 14) (enc A B f n) := qb_of (e_g_61_14 A B f n )
theorem b_p_61_14 (x : Int32) (k : Unit → qP β) : qb (pV 12 61 14 (.int x)) k (enc A B f n) = k (()) (enc (eup A 61 14 x) B f n) := qb_of (e_p_61_14 A B f n x)
theorem b_g_61_15  (k : Int32 → qP β) : qb (gI 12 61 15) k (enc A B f n) = k (A 61 15) (enc A B f n) := qb_of (e_g_61_15 A B f n )
theorem b_p_61_15 (x : Int32) (k : Unit → qP β) : qb (pV 12 61 15 (.int x)) k (enc A B f n) = k (()) (enc (eup A 61 15 x) B f n) := qb_of (e_p_61_15 A B f n x)
theorem b_g_61_16  (k : Int32 → qP β) : qb (gI 12 61 16) k (enc A B f n) = k (A 61 16) (enc A B f n) := qb_of (e_g_61_16 A B f n )
theorem b_p_61_16 (x : Int32) (k : Unit → qP β) : qb (pV 12 61 16 (.int x)) k (enc A B f n) = k (()) (enc (eup A 61 16 x) B f n) := qb_of (e_p_61_16 A B f n x)
theorem b_g_61_17  (k : Int32 → qP β) : qb (gI 12 61 17) k (enc A B f n) = k (A 61 17) (enc A B f n) := qb_of (e_g_61_17 A B f n )
theorem b_p_61_17 (x : Int32) (k : Unit → qP β) : qb (pV 12 61 17 (.int x)) k (enc A B f n) = k (()) (enc (eup A 61 17 x) B f n) := qb_of (e_p_61_17 A B f n x)
theorem b_g_61_18  (k : Int32 → qP β) : qb (gI 12 61 18) k (enc A B f n) = k (A 61 18) (enc A B f n) := qb_of (e_g_61_18 A B f n )
theorem b_p_61_18 (x : Int32) (k : Unit → qP β) : qb (pV 12 61 18 (.int x)) k (enc A B f n) = k (()) (enc (eup A 61 18 x) B f n) := qb_of (e_p_61_18 A B f n x)
theorem b_g_61_19  (k : Int64 → qP β) : qb (gL 12 61 19) k (enc A B f n) = k (B 61 19) (enc A B f n) := qb_of (e_g_61_19 A B f n )
theorem b_p_61_19 (x : Int64) (k : Unit → qP β) : qb (pV 12 61 19 (.long x)) k (enc A B f n) = k (()) (enc A (eupB B 61 19 x) f n) := qb_of (e_p_61_19 A B f n x)
theorem b_g_61_20  (k : Int32 → qP β) : qb (gI 12 61 20) k (enc A B f n) = k (A 61 20) (enc A B f n) := qb_of (e_g_61_20 A B f n )
theorem b_p_61_20 (x : Int32) (k : Unit → qP β) : qb (pV 12 61 20 (.int x)) k (enc A B f n) = k (()) (enc (eup A 61 20 x) B f n) := qb_of (e_p_61_20 A B f n x)
theorem b_g_61_21  (k : Nat → qP β) : qb (gR 12 61 21) k (enc A B f n) = k (73) (enc A B f n) := qb_of (e_g_61_21 A B f n )
theorem b_g_61_22  (k : Int32 → qP β) : qb (gI 12 61 22) k (enc A B f n) = k (A 61 22) (enc A B f n) := qb_of (e_g_61_22 A B f n )
theorem b_p_61_22 (x : Int32) (k : Unit → qP β) : qb (pV 12 61 22 (.int x)) k (enc A B f n) = k (()) (enc (eup A 61 22 x) B f n) := qb_of (e_p_61_22 A B f n x)
theorem b_a_62 (i : Int32) (k : Int32 → qP β) : qb (aI 62 i) k (enc A B f n) = if i < 0 ∨ 253 ≤ i.toNatClampNeg then none else k (A 62 i.toNatClampNeg) (enc A B f n) := qb_oi (e_a_62 A B f n i)
theorem b_s_62 (i x : Int32) (k : Unit → qP β) : qb (sI 62 i x) k (enc A B f n) = if i < 0 ∨ 253 ≤ i.toNatClampNeg then none else k (()) (enc (eup A 62 i.toNatClampNeg x) B f n) := qb_oi (e_s_62 A B f n i x)
theorem b_l_62  (k : Int32 → qP β) : qb (aL 62) k (enc A B f n) = k (253) (enc A B f n) := qb_of (e_l_62 A B f n )
theorem b_a_63 (i : Int32) (k : Int32 → qP β) : qb (aI 63 i) k (enc A B f n) = if i < 0 ∨ 506 ≤ i.toNatClampNeg then none else k (A 63 i.toNatClampNeg) (enc A B f n) := qb_oi (e_a_63 A B f n i)
theorem b_s_63 (i x : Int32) (k : Unit → qP β) : qb (sI 63 i x) k (enc A B f n) = if i < 0 ∨ 506 ≤ i.toNatClampNeg then none else k (()) (enc (eup A 63 i.toNatClampNeg x) B f n) := qb_oi (e_s_63 A B f n i x)
theorem b_l_63  (k : Int32 → qP β) : qb (aL 63) k (enc A B f n) = k (506) (enc A B f n) := qb_of (e_l_63 A B f n )
theorem b_a_64 (i : Int32) (k : Int32 → qP β) : qb (aZ 64 i) k (enc A B f n) = if i < 0 ∨ 2 ≤ i.toNatClampNeg then none else k (A 64 i.toNatClampNeg) (enc A B f n) := qb_oi (e_a_64 A B f n i)
theorem b_s_64 (i x : Int32) (k : Unit → qP β) : qb (sZ 64 i x) k (enc A B f n) = if i < 0 ∨ 2 ≤ i.toNatClampNeg then none else k (()) (enc (eup A 64 i.toNatClampNeg (vp_nar .boolean x)) B f n) := qb_oi (e_s_64 A B f n i x)
theorem b_a_65 (i : Int32) (k : Int32 → qP β) : qb (aI 65 i) k (enc A B f n) = if i < 0 ∨ 253 ≤ i.toNatClampNeg then none else k (A 65 i.toNatClampNeg) (enc A B f n) := qb_oi (e_a_65 A B f n i)
theorem b_s_65 (i x : Int32) (k : Unit → qP β) : qb (sI 65 i x) k (enc A B f n) = if i < 0 ∨ 253 ≤ i.toNatClampNeg then none else k (()) (enc (eup A 65 i.toNatClampNeg x) B f n) := qb_oi (e_s_65 A B f n i x)
theorem b_l_65  (k : Int32 → qP β) : qb (aL 65) k (enc A B f n) = k (253) (enc A B f n) := qb_of (e_l_65 A B f n )
theorem b_a_66 (i : Int32) (k : Int32 → qP β) : qb (aI 66 i) k (enc A B f n) = if i < 0 ∨ 3 ≤ i.toNatClampNeg then none else k (A 66 i.toNatClampNeg) (enc A B f n) := qb_oi (e_a_66 A B f n i)
theorem b_s_66 (i x : Int32) (k : Unit → qP β) : qb (sI 66 i x) k (enc A B f n) = if i < 0 ∨ 3 ≤ i.toNatClampNeg then none else k (()) (enc (eup A 66 i.toNatClampNeg x) B f n) := qb_oi (e_s_66 A B f n i x)
theorem b_l_66  (k : Int32 → qP β) : qb (aL 66) k (enc A B f n) = k (3) (enc A B f n) := qb_of (e_l_66 A B f n )
theorem b_a_67 (i : Int32) (k : Int32 → qP β) : qb (aI 67 i) k (enc A B f n) = if i < 0 ∨ 10 ≤ i.toNatClampNeg then none else k (A 67 i.toNatClampNeg) (enc A B f n) := qb_oi (e_a_67 A B f n i)
theorem b_s_67 (i x : Int32) (k : Unit → qP β) : qb (sI 67 i x) k (enc A B f n) = if i < 0 ∨ 10 ≤ i.toNatClampNeg then none else k (()) (enc (eup A 67 i.toNatClampNeg x) B f n) := qb_oi (e_s_67 A B f n i x)
theorem b_l_67  (k : Int32 → qP β) : qb (aL 67) k (enc A B f n) = k (10) (enc A B f n) := qb_of (e_l_67 A B f n )
theorem b_a_68 (i : Int32) (k : Int32 → qP β) : qb (aI 68 i) k (enc A B f n) = if i < 0 ∨ 5 ≤ i.toNatClampNeg then none else k (A 68 i.toNatClampNeg) (enc A B f n) := qb_oi (e_a_68 A B f n i)
theorem b_s_68 (i x : Int32) (k : Unit → qP β) : qb (sI 68 i x) k (enc A B f n) = if i < 0 ∨ 5 ≤ i.toNatClampNeg then none else k (()) (enc (eup A 68 i.toNatClampNeg x) B f n) := qb_oi (e_s_68 A B f n i x)
theorem b_l_68  (k : Int32 → qP β) : qb (aL 68) k (enc A B f n) = k (5) (enc A B f n) := qb_of (e_l_68 A B f n )
theorem b_a_69 (i : Int32) (k : Int32 → qP β) : qb (aI 69 i) k (enc A B f n) = if i < 0 ∨ 5 ≤ i.toNatClampNeg then none else k (A 69 i.toNatClampNeg) (enc A B f n) := qb_oi (e_a_69 A B f n i)
theorem b_s_69 (i x : Int32) (k : Unit → qP β) : qb (sI 69 i x) k (enc A B f n) = if i < 0 ∨ 5 ≤ i.toNatClampNeg then none else k (()) (enc (eup A 69 i.toNatClampNeg x) B f n) := qb_oi (e_s_69 A B f n i x)
theorem b_l_69  (k : Int32 → qP β) : qb (aL 69) k (enc A B f n) = k (5) (enc A B f n) := qb_of (e_l_69 A B f n )
theorem b_a_70 (i : Int32) (k : Int32 → qP β) : qb (aI 70 i) k (enc A B f n) = if i < 0 ∨ 3 ≤ i.toNatClampNeg then none else k (A 70 i.toNatClampNeg) (enc A B f n) := qb_oi (e_a_70 A B f n i)
theorem b_s_70 (i x : Int32) (k : Unit → qP β) : qb (sI 70 i x) k (enc A B f n) = if i < 0 ∨ 3 ≤ i.toNatClampNeg then none else k (()) (enc (eup A 70 i.toNatClampNeg x) B f n) := qb_oi (e_s_70 A B f n i x)
theorem b_l_70  (k : Int32 → qP β) : qb (aL 70) k (enc A B f n) = k (3) (enc A B f n) := qb_of (e_l_70 A B f n )
theorem b_a_71 (i : Int32) (k : Int32 → qP β) : qb (aI 71 i) k (enc A B f n) = if i < 0 ∨ 512 ≤ i.toNatClampNeg then none else k (A 71 i.toNatClampNeg) (enc A B f n) := qb_oi (e_a_71 A B f n i)
theorem b_s_71 (i x : Int32) (k : Unit → qP β) : qb (sI 71 i x) k (enc A B f n) = if i < 0 ∨ 512 ≤ i.toNatClampNeg then none else k (()) (enc (eup A 71 i.toNatClampNeg x) B f n) := qb_oi (e_s_71 A B f n i x)
theorem b_l_71  (k : Int32 → qP β) : qb (aL 71) k (enc A B f n) = k (512) (enc A B f n) := qb_of (e_l_71 A B f n )
theorem b_a_72 (i : Int32) (k : Int32 → qP β) : qb (aI 72 i) k (enc A B f n) = if i < 0 ∨ 200 ≤ i.toNatClampNeg then none else k (A 72 i.toNatClampNeg) (enc A B f n) := qb_oi (e_a_72 A B f n i)
theorem b_s_72 (i x : Int32) (k : Unit → qP β) : qb (sI 72 i x) k (enc A B f n) = if i < 0 ∨ 200 ≤ i.toNatClampNeg then none else k (()) (enc (eup A 72 i.toNatClampNeg x) B f n) := qb_oi (e_s_72 A B f n i x)
theorem b_l_72  (k : Int32 → qP β) : qb (aL 72) k (enc A B f n) = k (200) (enc A B f n) := qb_of (e_l_72 A B f n )
theorem b_a_73 (i : Int32) (k : Int32 → qP β) : qb (aI 73 i) k (enc A B f n) = if i < 0 ∨ 250 ≤ i.toNatClampNeg then none else k (A 73 i.toNatClampNeg) (enc A B f n) := qb_oi (e_a_73 A B f n i)
theorem b_s_73 (i x : Int32) (k : Unit → qP β) : qb (sI 73 i x) k (enc A B f n) = if i < 0 ∨ 250 ≤ i.toNatClampNeg then none else k (()) (enc (eup A 73 i.toNatClampNeg x) B f n) := qb_oi (e_s_73 A B f n i x)
theorem b_l_73  (k : Int32 → qP β) : qb (aL 73) k (enc A B f n) = k (250) (enc A B f n) := qb_of (e_l_73 A B f n )
end ST

set_option maxRecDepth 100000 in
theorem kw_inX0 : Cond.instantiable RX0 6 ∈ qtb := q_mem 134 (by decide +kernel) rfl
set_option maxRecDepth 100000 in
theorem kw_inX1 : Cond.instantiable RX1 0 ∈ qtb := q_mem 113 (by decide +kernel) rfl
set_option maxRecDepth 100000 in
theorem kw_inX2 : Cond.instantiable RX2 11 ∈ qtb := q_mem 85 (by decide +kernel) rfl
set_option maxRecDepth 100000 in
theorem kw_inX3 : Cond.instantiable RX3 12 ∈ qtb := q_mem 268 (by decide +kernel) rfl
set_option maxRecDepth 100000 in
theorem kw_inX4 : Cond.instantiable RX4 11 ∈ qtb := q_mem 226 (by decide +kernel) rfl
set_option maxRecDepth 100000 in
theorem kw_inX5 : Cond.instantiable RX5 0 ∈ qtb := q_mem 92 (by decide +kernel) rfl
set_option maxRecDepth 100000 in
theorem kw_inX6 : Cond.instantiable RX6 0 ∈ qtb := q_mem 106 (by decide +kernel) rfl
set_option maxRecDepth 100000 in
theorem kw_inX7 : Cond.instantiable RX7 0 ∈ qtb := q_mem 99 (by decide +kernel) rfl
set_option maxRecDepth 100000 in
theorem kw_inX8 : Cond.instantiable RX8 3 ∈ qtb := q_mem 161 (by decide +kernel) rfl
set_option maxRecDepth 100000 in
theorem kw_inX9 : Cond.instantiable RX9 0 ∈ qtb := q_mem 120 (by decide +kernel) rfl
set_option maxRecDepth 100000 in
theorem kw_inX10 : Cond.instantiable RX10 0 ∈ qtb := q_mem 127 (by decide +kernel) rfl
set_option maxRecDepth 100000 in
theorem kw_inX11 : Cond.instantiable RX11 10 ∈ qtb := q_mem 77 (by decide +kernel) rfl
set_option maxRecDepth 100000 in
theorem kw_inX12 : Cond.instantiable RX12 23 ∈ qtb := q_mem 976 (by decide +kernel) rfl
def qfl : List Cond := flatC (Jvm.Cond.and given_1 narrow_1)
def qtm (i : Nat) : Term := Term.string RX3 (qtix.getD i 0)
set_option maxRecDepth 100000 in
theorem kw_fx : ∀ i, i < 10 → Cond.exactly (qtm i) "java/lang/String" ∈ qfl := by decide +kernel
set_option maxRecDepth 100000 in
theorem kw_fc : ∀ i, i < 10 → Cond.eq (.field (qtm i) "java/lang/String" "coder" "B") (.int 0) ∈ qfl := by decide +kernel
set_option maxRecDepth 100000 in
theorem kw_fa : ∀ i, i < 10 → Cond.arrayOf (Term.field (qtm i) "java/lang/String" "value" "[B") .byte ∈ qfl := by decide +kernel
set_option maxRecDepth 100000 in
theorem kw_fl : ∀ i, i < 10 → Cond.eq (.length (Term.field (qtm i) "java/lang/String" "value" "[B")) (.int (Int32.ofNat (qlens.getD i 0))) ∈ qfl := by decide +kernel
set_option maxRecDepth 100000 in
theorem kw_fe : ∀ i, i < 10 → ∀ j, j < qlens.getD i 0 → Cond.eq (.elem (Term.field (qtm i) "java/lang/String" "value" "[B") (.int (Int32.ofNat j))) (.int ((qbyt.getD i []).getD j 0)) ∈ qfl := by decide +kernel
set_option maxRecDepth 100000 in
theorem kw_fn : ∀ i, i < 10 → ∀ j, j < 10 → i ≠ j → (Cond.not (Cond.eq (qtm i) (qtm j)) ∈ qfl ∨ Cond.not (Cond.eq (qtm j) (qtm i)) ∈ qfl) := by decide +kernel
set_option maxRecDepth 100000 in
theorem kw_fz : Cond.eq (.static "java/lang/String" "COMPACT_STRINGS" "Z") (.int 1) ∈ qfl := by decide +kernel
set_option maxRecDepth 100000 in
theorem kw_fr : Cond.isRef (.static "jdk/internal/util/Preconditions" "SIOOBE_FORMATTER" "Ljava/util/function/BiFunction;") ∈ qfl := by decide +kernel
set_option maxRecDepth 100000 in
theorem kw_sr0 : Cond.stringRef RX3 128 "plot" ∈ lw_tbl := (List.mem_of_getElem? (i := 810) (by decide +kernel))
set_option maxRecDepth 100000 in
theorem kw_sr1 : Cond.stringRef RX3 130 "shirt" ∈ lw_tbl := (List.mem_of_getElem? (i := 811) (by decide +kernel))
set_option maxRecDepth 100000 in
theorem kw_sr2 : Cond.stringRef RX3 132 "charge" ∈ lw_tbl := (List.mem_of_getElem? (i := 812) (by decide +kernel))
set_option maxRecDepth 100000 in
theorem kw_sr3 : Cond.stringRef RX3 134 "proof" ∈ lw_tbl := (List.mem_of_getElem? (i := 813) (by decide +kernel))
set_option maxRecDepth 100000 in
theorem kw_sr4 : Cond.stringRef RX3 136 "law" ∈ lw_tbl := (List.mem_of_getElem? (i := 814) (by decide +kernel))
set_option maxRecDepth 100000 in
theorem kw_sr5 : Cond.stringRef RX3 138 "day" ∈ lw_tbl := (List.mem_of_getElem? (i := 815) (by decide +kernel))
set_option maxRecDepth 100000 in
theorem kw_sr6 : Cond.stringRef RX3 139 "12;" ∈ lw_tbl := (List.mem_of_getElem? (i := 871) (by decide +kernel))
set_option maxRecDepth 100000 in
theorem kw_sr7 : Cond.stringRef RX3 141 "1l;" ∈ lw_tbl := (List.mem_of_getElem? (i := 872) (by decide +kernel))
set_option maxRecDepth 100000 in
theorem kw_sr8 : Cond.stringRef RX3 143 "d;" ∈ lw_tbl := (List.mem_of_getElem? (i := 873) (by decide +kernel))
set_option maxRecDepth 100000 in
theorem kw_sr9 : Cond.stringRef RX3 145 "1;" ∈ lw_tbl := (List.mem_of_getElem? (i := 874) (by decide +kernel))
set_option maxRecDepth 100000 in
theorem kw_lz : Cond.laysStatic "java/lang/String" "COMPACT_STRINGS" "Z" ∈ lw_tbl := (List.mem_of_getElem? (i := 829) (by decide +kernel))
set_option maxRecDepth 100000 in
theorem kw_lf : Cond.laysStatic "jdk/internal/util/Preconditions" "SIOOBE_FORMATTER" "Ljava/util/function/BiFunction;" ∈ lw_tbl := (List.mem_of_getElem? (i := 845) (by decide +kernel))
set_option maxRecDepth 100000 in
theorem kw_is : Cond.initialized "java/lang/String" ∈ qtb := q_mem 72 (by decide +kernel) rfl
set_option maxRecDepth 100000 in
theorem kw_ip : Cond.initialized "jdk/internal/util/Preconditions" ∈ qtb := q_mem 74 (by decide +kernel) rfl
theorem q_isref {args : Array Value} {s : State} {t : Term} (h : (Cond.isRef t).before args s = true) : ∃ w, t.eval args s none [] s = some w ∧ (w = .null ∨ ∃ a, w = .ref a) := by
  cases hv : t.eval args s none [] s with
  | none => simp [Cond.before, Cond.holds, Cond.value, hv] at h
  | some w =>
    refine ⟨w, rfl, ?_⟩
    simp only [Cond.before, Cond.holds, Cond.value, hv] at h
    cases w <;> simp_all [Value.isRef]
set_option maxRecDepth 100000 in
set_option maxHeartbeats 4000000 in
/-- at the law's entry the pure world stands: no cell yet -/
theorem q_world {s : State} {b L : Nat} {xs : Nat → Int32} (hts : ∀ w ∈ lw_tbl, w.before #[Value.ref b] s = true) (hXs : va_X b L xs s s.heap) (hbl : b < s.heap.size) (hgv : (Jvm.Cond.and given_1 narrow_1).before #[Value.ref b] s = true) : ∃ g : qG, g.1 = s.heap.size ∧ g.2.2.2.1 300 = b ∧ g.2.2.2.2.2.1 = L ∧ g.2.2.2.2.2.2 = xs ∧ qK g s := by
  have hq : ∀ w ∈ qtb, w.before #[Value.ref b] s = true := fun w h => hts w (List.mem_filter.mp h).1
  have hf : ∀ w ∈ qfl, w.before #[Value.ref b] s = true := flat_of_before _ hgv
  have hA : ∀ a : Nat, a < s.heap.size → ¬ (fun q : Nat => s.heap.size ≤ q) a := fun a h => Nat.not_le.mpr h
  obtain ⟨c0, i0, hn0⟩ := u_known (C := RX0) (T := TX0) (N := 6) (n := 6) hq kX0.2.1 (hq _ kw_inX0)
  obtain ⟨c1, i1, hn1⟩ := u_known (C := RX1) (T := TX1) (N := 0) (n := 0) hq kX1.2.1 (hq _ kw_inX1)
  obtain ⟨c2, i2, hn2⟩ := u_known (C := RX2) (T := TX2) (N := 11) (n := 11) hq kX2.2.1 (hq _ kw_inX2)
  obtain ⟨c3, i3, hn3⟩ := u_known (C := RX3) (T := TX3) (N := 12) (n := 12) hq kX3.2.1 (hq _ kw_inX3)
  obtain ⟨c4, i4, hn4⟩ := u_known (C := RX4) (T := TX4) (N := 11) (n := 11) hq kX4.2.1 (hq _ kw_inX4)
  obtain ⟨c5, i5, hn5⟩ := u_known (C := RX5) (T := TX5) (N := 0) (n := 0) hq kX5.2.1 (hq _ kw_inX5)
  obtain ⟨c6, i6, hn6⟩ := u_known (C := RX6) (T := TX6) (N := 0) (n := 0) hq kX6.2.1 (hq _ kw_inX6)
  obtain ⟨c7, i7, hn7⟩ := u_known (C := RX7) (T := TX7) (N := 0) (n := 0) hq kX7.2.1 (hq _ kw_inX7)
  obtain ⟨c8, i8, hn8⟩ := u_known (C := RX8) (T := TX8) (N := 3) (n := 3) hq kX8.2.1 (hq _ kw_inX8)
  obtain ⟨c9, i9, hn9⟩ := u_known (C := RX9) (T := TX9) (N := 0) (n := 0) hq kX9.2.1 (hq _ kw_inX9)
  obtain ⟨c10, i10, hn10⟩ := u_known (C := RX10) (T := TX10) (N := 0) (n := 0) hq kX10.2.1 (hq _ kw_inX10)
  obtain ⟨c11, i11, hn11⟩ := u_known (C := RX11) (T := TX11) (N := 10) (n := 10) hq kX11.2.1 (hq _ kw_inX11)
  obtain ⟨c12, i12, hn12⟩ := u_known (C := RX12) (T := TX12) (N := 23) (n := 23) hq kX12.2.1 (hq _ kw_inX12)
  obtain ⟨a0, k0, m0, f0, g0, d0⟩ := Cond.arrayClass_spec (hts _ kw_ci)
  obtain ⟨a1, k1, m1, f1, g1, d1⟩ := Cond.arrayClass_spec (hts _ kw_cz)
  obtain ⟨m2, a2, k2, p2, -, g2, d2, f2⟩ := Cond.arrayOver_spec (hts _ kw_ok)
  obtain ⟨m3, a3, k3, p3, -, g3, d3, f3⟩ := Cond.arrayOver_spec (hts _ kw_ol)
  obtain ⟨m4, a4, k4, p4, -, g4, d4, f4⟩ := Jvm.Stand.arrayOver_specB (hts _ kw_oo)
  obtain ⟨adK, adV, hS, hS2⟩ := vk_Sof (args := #[Value.ref b]) (s := s) (N := 10) (tm := qtm) (len := qlens) (byt := qbyt) (A := fun q : Nat => s.heap.size ≤ q) (by decide) (fun i hi => hf _ (kw_fx i hi)) (fun i hi => hf _ (kw_fc i hi)) (fun i hi => hf _ (kw_fa i hi)) (fun i hi => hf _ (kw_fl i hi)) (fun i hi j hj => hf _ (kw_fe i hi j hj)) (fun i j hi hj hn => (kw_fn i hi j hj hn).elim (fun h => Or.inl (hf _ h)) (fun h => Or.inr (hf _ h))) hA
  obtain ⟨w, hw, hw2⟩ := q_isref (hf _ kw_fr)
  obtain ⟨aF, haF⟩ : ∃ aF : Nat, w = .null ∨ w = .ref aF := by
    rcases hw2 with h | ⟨a, h⟩
    · exact ⟨0, Or.inl h⟩
    · exact ⟨a, Or.inr h⟩
  let sa : Nat → Nat := fun j => if j < 100 then adK j else if j < 200 then adV (j - 100) else if j = 200 then aF else b
  have e1 : ∀ i, i < 10 → sa i = adK i := fun i hi => if_pos (by omega)
  have e2 : ∀ i, i < 10 → sa (100 + i) = adV i := fun i hi => by
    show (if 100 + i < 100 then adK (100 + i) else if 100 + i < 200 then adV (100 + i - 100) else if 100 + i = 200 then aF else b) = adV i
    rw [if_neg (by omega), if_pos (by omega), Nat.add_sub_cancel_left]
  refine ⟨(s.heap.size, ((fun k => ([c0, c1, c2, c3, c4, c5, c6, c7, c8, c9, c10, c11, c12] : List ClassId).getD k 0), (fun k => ([i0, i1, i2, i3, i4, i5, i6, i7, i8, i9, i10, i11, i12] : List (Nat → Nat)).getD k (fun _ => 0))), (fun k => ([a0, a1, a2, a3, a4] : List ClassId).getD k 0), sa, w, L, xs), rfl, rfl, rfl, rfl, ⟨fun k q hk => ?_, fun k q hk => ?_⟩, ⟨fun w hw => va_any (q_ont w hw) (hq w hw), fun ty hw A => q_over (A := #[Value.ref b]) rfl (hts _ hw), fun ty hw A => q_acls (A := #[Value.ref b]) rfl (hts _ hw)⟩, ⟨fun i hi => ?_, fun i j hi hj h => ?_⟩, fun j hj => ?_, ?_, ?_, ?_, hXs, hbl, Nat.le_refl _⟩
  · match k, hk with
    | 0, hh => cases hh; exact hn0
    | 1, hh => cases hh; exact hn1
    | 2, hh => cases hh; exact hn2
    | 3, hh => cases hh; exact hn3
    | 4, hh => cases hh; exact hn4
    | 5, hh => cases hh; exact hn5
    | 6, hh => cases hh; exact hn6
    | 7, hh => cases hh; exact hn7
    | 8, hh => cases hh; exact hn8
    | 9, hh => cases hh; exact hn9
    | 10, hh => cases hh; exact hn10
    | 11, hh => cases hh; exact hn11
    | 12, hh => cases hh; exact hn12
    | k + 13, hh => simp [vwCl] at hh
  · match k, hk with
    | 0, hh => cases hh; exact ⟨fun n z => ⟨fun k h => (by cases h), k0, g0, m0, d0⟩, f0⟩
    | 1, hh => cases hh; exact ⟨fun n z => ⟨fun k h => (by cases h), k1, g1, m1, d1⟩, f1⟩
    | 2, hh => cases hh; exact ⟨fun n z => ⟨fun k h => (by cases h), k2, g2, m2, d2⟩, k2, m2, g2, d2, p2, f2⟩
    | 3, hh => cases hh; exact ⟨fun n z => ⟨fun k h => (by cases h), k3, g3, m3, d3⟩, k3, m3, g3, d3, p3, f3⟩
    | 4, hh => cases hh; exact ⟨fun n z => ⟨fun k h => (by cases h), k4, g4, m4, d4⟩, f4⟩
    | k + 5, hh => simp [qtys] at hh
  · show va_O _ (sa i) _ _ _ ∧ va_OF _ _ _ _ (sa i) _ _ _ ∧ va_OF _ _ _ (.ref (sa (100 + i))) (sa i) _ _ _ ∧ va_T _ (sa (100 + i)) _ _ _ _ _
    rw [e1 i hi, e2 i hi]
    exact hS.1 i hi
  · have h : sa i = sa j := h
    rw [e1 i hi, e1 j hj] at h
    exact hS.2 i j hi hj h
  · have h2 := hS2 j hj
    show vk_R RX3 (qtix.getD j 0) (qtxs.getD j "") (sa j) s
    rw [e1 j hj]
    match j, hj with
    | 0, _ => exact vk_R.of (hts _ kw_sr0) h2
    | 1, _ => exact vk_R.of (hts _ kw_sr1) h2
    | 2, _ => exact vk_R.of (hts _ kw_sr2) h2
    | 3, _ => exact vk_R.of (hts _ kw_sr3) h2
    | 4, _ => exact vk_R.of (hts _ kw_sr4) h2
    | 5, _ => exact vk_R.of (hts _ kw_sr5) h2
    | 6, _ => exact vk_R.of (hts _ kw_sr6) h2
    | 7, _ => exact vk_R.of (hts _ kw_sr7) h2
    | 8, _ => exact vk_R.of (hts _ kw_sr8) h2
    | 9, _ => exact vk_R.of (hts _ kw_sr9) h2
    | j + 10, hj => omega
  · exact va_Zof (hts _ kw_lz) (hq _ kw_is) (va_eqi (hf _ kw_fz)) hA
  · exact va_Zof (hts _ kw_lf) (hq _ kw_ip) hw hA
  · rcases haF with h | h
    · exact Or.inl h
    · right
      show w = .ref (sa 200)
      rw [h]
      rfl
theorem W_room {p : Program} {l : Launch} {e : Env} {R R' : Room} {s : State} {m : MethodId} {args : Array Value} {below : List Frame} {meth : Method} {c : Code} {H : Heap} {locs : List Loc} {cells slots : Nat} {Q : State → Prop} {g : JFrame} (h1 : R.frames ≤ R'.frames) (h2 : R.locals ≤ R'.locals) (h3 : R.cells ≤ R'.cells) (h4 : R.slots ≤ R'.slots) (k : W p l e R s m args below meth c H locs cells slots Q g) : W p l e R' s m args below meth c H locs cells slots Q g := by
  intro T hT X
  refine k T hT { X with room := ?_ }
  have h := X.room
  simp only [State.hasRoom, Bool.and_eq_true, decide_eq_true_eq] at h ⊢
  obtain ⟨⟨⟨⟨q1, q2, q3, q4, q5, q6⟩, q7⟩, q8⟩, q9⟩ := h
  exact ⟨⟨⟨⟨by omega, by omega, by omega, by omega, by omega, q6⟩, by omega⟩, by omega⟩, q9⟩
/-- the cells behind both constructors -/
def qhA : qH := match FX11_init 0 [.inr (.inr (11, [.null, .null, .null, .null, .null, .long 0, .long 0, .int 0, .int 0, .int 0]))] with
  | some r => r.2
  | none => []
def qhB : qH := match FX12_init 61 (qhA ++ [.inr (.inr (12, [.null, .null, .null, .null, .null, .int 0, .long 0, .long 0, .null, .null, .null, .null, .null, .null, .int 0, .int 0, .int 0, .int 0, .int 0, .long 0, .int 0, .null, .int 0]))]) with
  | some r => r.2
  | none => []
theorem qhA_ok : FX11_init 0 [.inr (.inr (11, [.null, .null, .null, .null, .null, .long 0, .long 0, .int 0, .int 0, .int 0]))] = some ((), qhA) := rfl
theorem qhA_len : qhA.length = 61 := rfl
theorem qhB_ok : FX12_init 61 (qhA ++ [.inr (.inr (12, [.null, .null, .null, .null, .null, .int 0, .long 0, .long 0, .null, .null, .null, .null, .null, .null, .int 0, .int 0, .int 0, .int 0, .int 0, .long 0, .int 0, .null, .int 0]))]) = some ((), qhB) := rfl
set_option maxRecDepth 100000 in
set_option maxHeartbeats 4000000 in
theorem whole_open {p : Program} {e : Env} {s : State} {m : MethodId} {below : List Frame} {meth : Method} {c : Code} (l : Launch) {b L : Nat} {xs : Nat → Int32} (hL : L ≤ 320) (C0 : lw_At p s m meth c b L xs) {Inv : Nat → qH → Prop} (hOK : lawOK Inv) (h0 : Inv 0 qhB) : W p l e room_1 s m #[Value.ref b] below meth c s.heap [] 0 0 (lw_Z below #[Value.ref b] s) (entryFrame m ([Value.ref b] : List Value).toArray 4) := by
  obtain ⟨hx, hb, hr, hml, hown, hts, hXs, hbl, hlocks, hgv⟩ := C0
  obtain ⟨g, hg1, hg2, hg3, hg4, hK⟩ := q_world hts hXs hbl hgv
  have key : qV l g mL_law 2048 0 600000 7302250 0 0 qZl 0 [(0, .ref 1000300)] [] [] := by
    refine q_new dL_law_0 nL_7 (by decide) (by decide) (by decide) ?_
    refine q_dup dL_law_3 rfl ?_
    refine q_init (as := []) (rest := [.ref 0]) dL_law_4 iL_9 (CX11_init _ _ () qhA qhA_ok) (Nat.le_of_ble_eq_true rfl) ⟨by decide, by decide⟩ (fun w y hy _ => ?_)
    rw [hy.1, hy.2]
    show qV l g mL_law 2048 0 600000 7302250 61 _ qZl 7 [(0, .ref 1000300)] [.ref 0] qhA
    refine q_astore_n (lv' := [(1, .ref 0), (0, .ref 1000300)]) dL_law_7 (by decide) rfl ?_
    refine q_new dL_law_8 nL_10 (by rw [qhA_len]; decide) (by decide) (by decide) ?_
    rw [qhA_len]
    refine q_dup dL_law_11 rfl ?_
    refine q_init (as := []) (rest := [.ref 61]) dL_law_12 iL_12 (CX12_init _ _ () qhB qhB_ok) (Nat.le_of_ble_eq_true rfl) ⟨by decide, by decide⟩ (fun w y hy _ => ?_)
    rw [hy.1, hy.2]
    show qV l g mL_law 2048 0 600000 7302250 74 _ qZl 15 [(1, .ref 0), (0, .ref 1000300)] [.ref 61] qhB
    refine q_astore_n (lv' := [(2, .ref 61), (1, .ref 0), (0, .ref 1000300)]) dL_law_15 (by decide) rfl ?_
    refine q_iconst (v := 0) dL_law_16 (by decide) ?_
    refine q_istore_n (lv' := [(3, .int 0), (2, .ref 61), (1, .ref 0), (0, .ref 1000300)]) dL_law_17 (by decide) rfl ?_
    refine q_locals (lv' := [(0, .ref 1000300), (1, .ref 0), (2, .ref 61), (3, .int (nI (5 * 0)))]) (fun q hq => ?_) (law_loop (by rw [hg3]; exact hL) hOK 65 0 _ _ qhB rfl (by decide) (by decide) h0)
    simp only [List.mem_cons, List.not_mem_nil, or_false] at hq ⊢
    rcases hq with h | h | h | h
    · exact Or.inr (Or.inr (Or.inr h))
    · exact Or.inr (Or.inr (Or.inl h))
    · exact Or.inr (Or.inl h)
    · exact Or.inl h
  have hl := lv_entry ([.ref b]) (n := 4) (Nat.le_of_ble_eq_true rfl)
  rw [lg_entry_eq]
  generalize (lg_sl ([.ref b]) ++ List.replicate (4 - (lg_sl ([.ref b])).length) Slot.unset).toArray = ls at hl ⊢
  have hq : ∀ w ∈ qtb, w.before #[Value.ref b] s = true := fun w h => hts w (List.mem_filter.mp h).1
  have hW := key p e s m #[Value.ref b] below meth c s.heap [] ls ⟨hx, hb, hr, hml, hown, hlocks, (fun h => absurd h (by decide)), hK, hq⟩ (by rw [hg1]; rfl) rfl (by
    show lv_has ls 4 [(0, .ref (qad g 1000300))]
    rw [q_sad, hg2]
    exact hl) ⟨by rw [hg1]; rfl, by decide, fun k q hk => by simp [qw] at hk⟩ va_S.rf
  exact W_room (by decide) (by decide) (by decide) (by decide) hW

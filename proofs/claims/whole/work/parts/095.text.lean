/-! text constants: String.length, String.charAt of them -/
theorem q_tad (g : qG) (j : Nat) : qad g (1000000 + j) = g.2.2.2.1 j := by
  unfold qad
  rw [if_neg (by omega), Nat.add_sub_cancel_left]
def tG (a : Nat) : qP Unit := fun h => if 1000000 ≤ a ∧ a < 1000010 then some ((), h) else none
def bG (b : Nat) : qP Unit := fun h => if 1000100 ≤ b ∧ b < 1000110 then some ((), h) else none
def bN (b : Nat) : Int32 := Int32.ofNat (qlens.getD (b - 1000100) 0)
def bV (b : Nat) (i : Int32) : Int32 := (qbyt.getD (b - 1000100) []).getD i.toNatClampNeg 0
theorem tG_some {a : Nat} {h h1 : qH} {u : Unit} (e : tG a h = some (u, h1)) : ∃ j, j < 10 ∧ a = 1000000 + j ∧ h1 = h := by
  unfold tG at e
  split at e
  case isTrue hc => cases e; exact ⟨a - 1000000, by omega, by omega, rfl⟩
  case isFalse => cases e
theorem bG_some {a : Nat} {h h1 : qH} {u : Unit} (e : bG a h = some (u, h1)) : ∃ j, j < 10 ∧ a = 1000100 + j ∧ h1 = h := by
  unfold bG at e
  split at e
  case isTrue hc => cases e; exact ⟨a - 1000100, by omega, by omega, rfl⟩
  case isFalse => cases e
theorem q_bad (g : qG) (j : Nat) : qad g (1000100 + j) = g.2.2.2.1 (100 + j) := by
  rw [show 1000100 + j = 1000000 + (100 + j) by omega, q_tad]
section QX
variable {α : Type} {l : Launch} {g : qG} {M M2 : qMt} {d n mc ms ce sl : Nat} {cv : α → Option Value} {pc idx : Nat} {lv : List (Nat × Value)} {st rest as : List Value} {p : qP α}
theorem s_ldcS {j : Nat} (hd : decode M.2.1 pc = .ok (.ldc idx, 2)) (hown : M.1.cls = RX3) (hj : j < 10) (hi : qtix.getD j 0 = idx) (k : qS l g M d n mc ms ce sl cv (pc + 2) lv (.ref (1000000 + j) :: st) p) : qS l g M d n mc ms ce sl cv pc lv st p := by
  intro h v h' e0 p e s m args below meth c H locs ls hF hs hn hl hI hS
  have hX := hF.2.2.2.2.2.2.2.1.2.2
  have hk := k h v h' e0 p e s m args below meth c H locs ls hF hs hn hl hI hS
  refine va_ldcS (own := RX3) (tx := qtxs.getD j "") (q := g.2.2.2.1 j) hF.1 hF.2.1 (by rw [← hown]; exact hF.2.2.2.2.1) (by rw [← hi]; exact hX.2.1 j hj) hd ?_
  rw [← q_tad]
  exact hk
theorem s_tV {a : Nat} {kk : Unit → qP α} (hd : decode M.2.1 pc = .ok (.getfield idx, 3)) (hw : Cond.fieldLink M.1.cls idx "java/lang/String" "value" "[B" ∈ qtb) (hk : qS l g M d n mc ms ce sl cv (pc + 3) lv (.ref (a + 100) :: st) (kk ())) : qS l g M d n mc ms ce sl cv pc lv (.ref a :: st) (qb (tG a) kk) := by
  intro h v h' e
  obtain ⟨u, h1, e1, e2⟩ := qb_some e
  obtain ⟨j, hj, rfl, rfl⟩ := tG_some e1
  intro p e s m args below meth c H locs ls hF hs hn hl hI hS
  have hX := hF.2.2.2.2.2.2.2.1.2.2
  have hkk := hk h1 v h' e2 p e s m args below meth c H locs ls hF hs hn hl hI hS
  show W _ _ _ _ _ _ _ _ _ _ _ _ _ _ _ (F0 m pc ls (.ref (qad g (1000000 + j)) :: st.map (qv g)))
  rw [q_tad]
  refine vk_getf (own := M.1.cls) (ref := "java/lang/String") hF.1 hF.2.1 ((hX.1.1 j hj).2.2.1) hS hF.2.2.2.2.1 (hF.2.2.2.2.2.2.2.2 _ hw) (fun _ h9 => h9) hd ?_
  have e9 : qad g (1000000 + j + 100) = g.2.2.2.1 (100 + j) := by rw [show 1000000 + j + 100 = 1000100 + j by omega, q_bad]
  have hkk : W p l e (qRm d mc ms) s m args below meth c H locs ce sl (qz g n mc ms (fun x y => x = cv v ∧ y = h') below args s) (F0 m (pc + 3) ls (.ref (qad g (1000000 + j + 100)) :: st.map (qv g))) := hkk
  rw [e9] at hkk
  exact hkk
theorem s_tK {a : Nat} {kk : Unit → qP α} (hd : decode M.2.1 pc = .ok (.getfield idx, 3)) (hw : Cond.fieldLink M.1.cls idx "java/lang/String" "coder" "B" ∈ qtb) (hk : qS l g M d n mc ms ce sl cv (pc + 3) lv (.int 0 :: st) (kk ())) : qS l g M d n mc ms ce sl cv pc lv (.ref a :: st) (qb (tG a) kk) := by
  intro h v h' e
  obtain ⟨u, h1, e1, e2⟩ := qb_some e
  obtain ⟨j, hj, rfl, rfl⟩ := tG_some e1
  intro p e s m args below meth c H locs ls hF hs hn hl hI hS
  have hX := hF.2.2.2.2.2.2.2.1.2.2
  have hkk := hk h1 v h' e2 p e s m args below meth c H locs ls hF hs hn hl hI hS
  show W _ _ _ _ _ _ _ _ _ _ _ _ _ _ _ (F0 m pc ls (.ref (qad g (1000000 + j)) :: st.map (qv g)))
  rw [q_tad]
  exact vk_getf (own := M.1.cls) (ref := "java/lang/String") hF.1 hF.2.1 ((hX.1.1 j hj).2.1) hS hF.2.2.2.2.1 (hF.2.2.2.2.2.2.2.2 _ hw) (fun _ h9 => h9) hd hkk
theorem s_bL {b : Nat} {kk : Unit → qP α} (hd : decode M.2.1 pc = .ok (.arraylength, 1)) (hk : qS l g M d n mc ms ce sl cv (pc + 1) lv (.int (bN b) :: st) (kk ())) : qS l g M d n mc ms ce sl cv pc lv (.ref b :: st) (qb (bG b) kk) := by
  intro h v h' e
  obtain ⟨u, h1, e1, e2⟩ := qb_some e
  obtain ⟨j, hj, rfl, rfl⟩ := bG_some e1
  intro p e s m args below meth c H locs ls hF hs hn hl hI hS
  have hX := hF.2.2.2.2.2.2.2.1.2.2
  have hkk := hk h1 v h' e2 p e s m args below meth c H locs ls hF hs hn hl hI hS
  show W _ _ _ _ _ _ _ _ _ _ _ _ _ _ _ (F0 m pc ls (.ref (qad g (1000100 + j)) :: st.map (qv g)))
  rw [q_bad]
  exact va_tlen hF.1 hF.2.1 ((hX.1.1 j hj).2.2.2) hS (by unfold bN; rw [Nat.add_sub_cancel_left]) hd hkk
theorem s_bA {b : Nat} {i : Int32} {kk : Unit → qP α} (hd : decode M.2.1 pc = .ok (.baload, 1)) (hk : qS l g M d n mc ms ce sl cv (pc + 1) lv (.int (bV b i) :: st) (kk ())) : qS l g M d n mc ms ce sl cv pc lv (.int i :: .ref b :: st) (qgd (¬ (i < 0 ∨ qlens.getD (b - 1000100) 0 ≤ i.toNatClampNeg)) (qb (bG b) kk)) := by
  intro h v h' e
  unfold qgd at e
  split at e
  case isFalse => cases e
  case isTrue hin =>
    obtain ⟨u, h1, e1, e2⟩ := qb_some e
    obtain ⟨j, hj, rfl, rfl⟩ := bG_some e1
    intro p e s m args below meth c H locs ls hF hs hn hl hI hS
    have hX := hF.2.2.2.2.2.2.2.1.2.2
    have hkk := hk h1 v h' e2 p e s m args below meth c H locs ls hF hs hn hl hI hS
    show W _ _ _ _ _ _ _ _ _ _ _ _ _ _ _ (F0 m pc ls (.int i :: .ref (qad g (1000100 + j)) :: st.map (qv g)))
    rw [q_bad]
    rw [Nat.add_sub_cancel_left] at hin
    exact va_tb hF.1 hF.2.1 ((hX.1.1 j hj).2.2.2) hS hin (v := .int (bV (1000100 + j) i)) (by unfold bV; rw [Nat.add_sub_cancel_left]) hd hkk
theorem s_getsC (hd : decode M.2.1 pc = .ok (.getstatic idx, 3)) (hw : Cond.fieldLink M.1.cls idx "java/lang/String" "COMPACT_STRINGS" "Z" ∈ qtb) (hk : qS l g M d n mc ms ce sl cv (pc + 3) lv (.int 1 :: st) p) : qS l g M d n mc ms ce sl cv pc lv st p := by
  intro h v h' e0 p e s m args below meth c H locs ls hF hs hn hl hI hS
  have hX := hF.2.2.2.2.2.2.2.1.2.2
  exact va_gets (ref := "java/lang/String") hF.1 hF.2.1 hX.2.2.1 hS hF.2.2.2.2.1 (hF.2.2.2.2.2.2.2.2 _ hw) (fun _ h9 => h9) hd (hk h v h' e0 p e s m args below meth c H locs ls hF hs hn hl hI hS)
theorem s_getsF (hd : decode M.2.1 pc = .ok (.getstatic idx, 3)) (hw : Cond.fieldLink M.1.cls idx "jdk/internal/util/Preconditions" "SIOOBE_FORMATTER" "Ljava/util/function/BiFunction;" ∈ qtb) (hk : ∀ w : Value, (w = .null ∨ w = .ref 1000200) → qS l g M d n mc ms ce sl cv (pc + 3) lv (w :: st) p) : qS l g M d n mc ms ce sl cv pc lv st p := by
  intro h v h' e0 p e s m args below meth c H locs ls hF hs hn hl hI hS
  have hX := hF.2.2.2.2.2.2.2.1.2.2
  refine va_gets (ref := "jdk/internal/util/Preconditions") hF.1 hF.2.1 hX.2.2.2.1 hS hF.2.2.2.2.1 (hF.2.2.2.2.2.2.2.2 _ hw) (fun _ h9 => h9) hd ?_
  rcases hX.2.2.2.2.1 with h9 | h9
  · rw [h9]
    exact hk .null (Or.inl rfl) h v h' e0 p e s m args below meth c H locs ls hF hs hn hl hI hS
  · rw [h9]
    have := hk (.ref 1000200) (Or.inr rfl) h v h' e0 p e s m args below meth c H locs ls hF hs hn hl hI hS
    have this : W p l e (qRm d mc ms) s m args below meth c H locs ce sl (qz g n mc ms (fun x y => x = cv v ∧ y = h') below args s) (F0 m (pc + 3) ls (.ref (qad g (1000000 + 200)) :: st.map (qv g))) := this
    rw [q_tad] at this
    exact this
theorem s_i2c {x : Int32} (hd : decode M.2.1 pc = .ok (.i2c, 1)) (k : qS l g M d n mc ms ce sl cv (pc + 1) lv (.int (x.toUInt32 % 65536).toInt32 :: st) p) : qS l g M d n mc ms ce sl cv pc lv (.int x :: st) p := by
  intro h v h' e0 p e s m args below meth c H locs ls hF hs hn hl hI hS
  exact lv_i2c hF.1 hF.2.1 hd rfl (k h v h' e0 p e s m args below meth c H locs ls hF hs hn hl hI hS)
theorem s_virtT {a : Nat} {f : qP Int32} {kk : Int32 → qP α} (hd : decode M.2.1 pc = .ok (.invokevirtual idx, 3)) (hw : okB M2 as.length ∧ Cond.instanceMethod M2.1 ∈ qtb ∧ Cond.selects "java/lang/String" M2.1 M2.1 ∈ qtb ∧ Cond.methodLink M.1.cls idx M2.1 ∈ qtb) (hC : qCt l g M2 d 0 0 cvI (.ref a :: as) f) (hr : (rest.map fun v => v.category).sum ≤ 8) (hf : ce ≤ mc ∧ sl ≤ ms) (hk : ∀ x, qS l g M (d + 1) n mc ms ce sl cv (pc + 3) lv (.int x :: rest) (kk x)) : qS l g M (d + 1) n mc ms ce sl cv pc lv (as.reverse ++ .ref a :: rest) (qb (tG a) fun _ => qb f kk) := by
  intro h v h' e
  obtain ⟨u, h0, e0, e9⟩ := qb_some e
  obtain ⟨j, hj, rfl, rfl⟩ := tG_some e0
  obtain ⟨x, h1, e1, e2⟩ := qb_some e9
  have hE := hC h0 x h1 e1
  have hkk := hk x h1 v h' e2
  intro p e s m args below meth c H locs ls hF hs hn hl hI hS
  have hT := hF.2.2.2.2.2.2.2.2
  have hK := hF.2.2.2.2.2.2.2.1
  obtain ⟨hB, hin, hse, hlk⟩ := hw
  have hR := q_room (d := d) (mc := mc) (ms := ms) hB.2.2.2.2.2 0 0
  rw [q_mapapp]
  refine q_go (g := g) (Z' := fun x_1 y => x_1 = cvI x ∧ y = h1) (rest := rest.map (qv g)) (va_runV (bytes := M2.2.1) (maxL := M2.2.2.1) (ret := M2.2.2.2) (C := "java/lang/String") (b := qad g (1000000 + j)) (As := as.map (qv g)) (n := as.length) (Ts := qtb) (own := M.1.cls) ⟨hF.1, hF.2.1, hF.2.2.2.1, hF.2.2.2.2.1, hT⟩ hE
    ⟨⟨rfl, rfl, hR.1, hR.2, q_ws hK hB.1, List.mem_cons_self, hT _ hB.1, hT _ hB.2.1, ⟨hB.2.2.1, hB.2.2.2.1⟩, hB.len, hT _ hlk⟩, hT _ hin, hT _ hse⟩ ⟨qPc_blind g _ h0, by rw [q_tad]; exact vk_recv hK.2.2.1 hj hS, q_pre (as := .ref (1000000 + j) :: as) hK hs hI hS⟩ rfl (by rw [List.length_map]) hl.1 rfl (lv_room (by rw [q_catsum]; exact hr)) hd hf) hS (fun w y H1 locs1 hZ hn' hI' hS' => ?_)
  obtain ⟨rfl, rfl⟩ := hZ
  rw [← q_behind]
  exact hkk p e s m args below meth c H1 locs1 ls hF hs (by omega) hl hI' hS'
end QX
theorem pn_J0 : plainName RJ0 = true := by decide +kernel
theorem pn_J1 : plainName RJ1 = true := by decide +kernel
theorem pn_J3 : plainName RJ3 = true := by decide +kernel
def FJ0_coder_7d493 (x0 : Nat) : qP Int32 := qb (tG x0) fun _ => qr (0 : Int32)
theorem CJ0_coder_7d493 {l : Launch} {g : qG} {d : Nat} (x0 : Nat) : qCt l g mJ0_coder_7d493 d 0 0 cvI [.ref x0] (FJ0_coder_7d493 x0) := s_of pn_J0 (Nat.le_of_ble_eq_true rfl) fun n => by
  unfold FJ0_coder_7d493
  refine s_getsC dJ0_coder_7d493_0 gJ0_38 ?_
  refine s_if_eqB (tgt := 13) dJ0_coder_7d493_3 (by decide) (by decide) ?_
  refine s_aload_n dJ0_coder_7d493_6 rfl ?_
  refine s_tK dJ0_coder_7d493_7 gJ0_15 ?_
  refine s_goto (tgt := 14) dJ0_coder_7d493_10 (by decide) ?_
  exact s_ireturn dJ0_coder_7d493_14 rfl (by decide)
def FJ0_isLatin1_aae02 (x0 : Nat) : qP Int32 := qb (tG x0) fun _ => qr (1 : Int32)
theorem CJ0_isLatin1_aae02 {l : Launch} {g : qG} {d : Nat} (x0 : Nat) : qCt l g mJ0_isLatin1_aae02 d 0 0 cvI [.ref x0] (FJ0_isLatin1_aae02 x0) := s_of pn_J0 (Nat.le_of_ble_eq_true rfl) fun n => by
  unfold FJ0_isLatin1_aae02
  refine s_getsC dJ0_isLatin1_aae02_0 gJ0_38 ?_
  refine s_if_eqB (tgt := 17) dJ0_isLatin1_aae02_3 (by decide) (by decide) ?_
  refine s_aload_n dJ0_isLatin1_aae02_6 rfl ?_
  refine s_tK dJ0_isLatin1_aae02_7 gJ0_15 ?_
  refine s_if_neA (tgt := 17) dJ0_isLatin1_aae02_10 (by decide) (by decide) ?_
  refine s_iconst (v := 1) dJ0_isLatin1_aae02_13 (by decide) ?_
  refine s_goto (tgt := 18) dJ0_isLatin1_aae02_14 (by decide) ?_
  exact s_ireturn dJ0_isLatin1_aae02_18 rfl (by decide)
def FJ0_length_8abf5 (x0 : Nat) : qP Int32 := qb (tG x0) fun _ => qb (bG (x0 + 100)) fun _ => qb (tG x0) fun _ => qb (FJ0_coder_7d493 x0) fun v => qr (bN (x0 + 100) >>> (v &&& 31))
theorem CJ0_length_8abf5 {l : Launch} {g : qG} {d : Nat} (x0 : Nat) : qCt l g mJ0_length_8abf5 (d + 1) 0 0 cvI [.ref x0] (FJ0_length_8abf5 x0) := s_of pn_J0 (Nat.le_of_ble_eq_true rfl) fun n => by
  unfold FJ0_length_8abf5
  refine s_aload_n dJ0_length_8abf5_0 rfl ?_
  refine s_tV dJ0_length_8abf5_1 gJ0_9 ?_
  refine s_bL dJ0_length_8abf5_4 ?_
  refine s_aload_n dJ0_length_8abf5_5 rfl ?_
  refine s_virtT (as := []) (rest := [.int (bN (x0 + 100))]) dJ0_length_8abf5_6 vJ0_335 (CJ0_coder_7d493 _) (Nat.le_of_ble_eq_true rfl) ⟨Nat.le_refl _, Nat.le_refl _⟩ fun v => ?_
  refine s_ishr dJ0_length_8abf5_9 ?_
  exact s_ireturn dJ0_length_8abf5_10 rfl rfl
def FJ3_checkIndex_8e157 (x0 x1 : Int32) : qP Int32 := if x0 < 0 then qfail else if x0 < x1 then qr x0 else qfail
theorem CJ3_checkIndex_8e157 {l : Launch} {g : qG} {d : Nat} (x0 x1 : Int32) (w : Value) (hw : w = .null ∨ w = .ref 1000200) : qCt l g mJ3_checkIndex_8e157 d 0 0 cvI [.int x0, .int x1, w] (FJ3_checkIndex_8e157 x0 x1) := by
  rcases hw with rfl | rfl
  · refine s_of pn_J3 (Nat.le_of_ble_eq_true rfl) fun n => ?_
    unfold FJ3_checkIndex_8e157
    refine s_iload_n dJ3_checkIndex_8e157_0 rfl ?_
    refine s_if_lt (tgt := 9) dJ3_checkIndex_8e157_1 (by decide) (fun c1 => s_fail) (fun c1 => ?_)
    refine s_iload_n dJ3_checkIndex_8e157_4 rfl ?_
    refine s_iload_n dJ3_checkIndex_8e157_5 rfl ?_
    refine s_icmp_lt (tgt := 16) dJ3_checkIndex_8e157_6 (by decide) (fun c2 => ?_) (fun c2 => s_fail)
    refine s_iload_n dJ3_checkIndex_8e157_16 rfl ?_
    exact s_ireturn dJ3_checkIndex_8e157_17 rfl rfl
  · refine s_of pn_J3 (Nat.le_of_ble_eq_true rfl) fun n => ?_
    unfold FJ3_checkIndex_8e157
    refine s_iload_n dJ3_checkIndex_8e157_0 rfl ?_
    refine s_if_lt (tgt := 9) dJ3_checkIndex_8e157_1 (by decide) (fun c1 => s_fail) (fun c1 => ?_)
    refine s_iload_n dJ3_checkIndex_8e157_4 rfl ?_
    refine s_iload_n dJ3_checkIndex_8e157_5 rfl ?_
    refine s_icmp_lt (tgt := 16) dJ3_checkIndex_8e157_6 (by decide) (fun c2 => ?_) (fun c2 => s_fail)
    refine s_iload_n dJ3_checkIndex_8e157_16 rfl ?_
    exact s_ireturn dJ3_checkIndex_8e157_17 rfl rfl
def FJ0_checkIndex_df160 (x0 x1 : Int32) : qP Unit := qb (FJ3_checkIndex_8e157 x0 x1) fun _ => qr ()
theorem CJ0_checkIndex_df160 {l : Launch} {g : qG} {d : Nat} (x0 x1 : Int32) : qCt l g mJ0_checkIndex_df160 (d + 1) 0 0 cvV [.int x0, .int x1] (FJ0_checkIndex_df160 x0 x1) := s_of pn_J0 (Nat.le_of_ble_eq_true rfl) fun n => by
  unfold FJ0_checkIndex_df160
  refine s_iload_n dJ0_checkIndex_df160_0 rfl ?_
  refine s_iload_n dJ0_checkIndex_df160_1 rfl ?_
  refine s_getsF dJ0_checkIndex_df160_2 gJ0_1053 fun w hw => ?_
  refine s_staticI (as := [.int x0, .int x1, w]) (rest := []) dJ0_checkIndex_df160_5 sJ0_1059 (CJ3_checkIndex_8e157 _ _ w hw) (Nat.le_of_ble_eq_true rfl) ⟨Nat.le_refl _, Nat.le_refl _⟩ fun v => ?_
  refine s_pop dJ0_checkIndex_df160_8 rfl ?_
  exact s_return dJ0_checkIndex_df160_9 rfl
def FJ1_charAt_3b067 (x0 : Nat) (x1 : Int32) : qP Int32 := qb (bG x0) fun _ => qb (FJ0_checkIndex_df160 x1 (bN x0)) fun _ => qgd (¬ (x1 < 0 ∨ qlens.getD (x0 - 1000100) 0 ≤ x1.toNatClampNeg)) (qb (bG x0) fun _ => qr ((bV x0 x1 &&& (255 : Int32)).toUInt32 % 65536).toInt32)
theorem CJ1_charAt_3b067 {l : Launch} {g : qG} {d : Nat} (x0 : Nat) (x1 : Int32) : qCt l g mJ1_charAt_3b067 (d + 2) 0 0 cvI [.ref x0, .int x1] (FJ1_charAt_3b067 x0 x1) := s_of pn_J1 (Nat.le_of_ble_eq_true rfl) fun n => by
  unfold FJ1_charAt_3b067
  refine s_iload_n dJ1_charAt_3b067_0 rfl ?_
  refine s_aload_n dJ1_charAt_3b067_1 rfl ?_
  refine s_bL dJ1_charAt_3b067_2 ?_
  refine s_staticV (as := [.int x1, .int (bN x0)]) (rest := []) dJ1_charAt_3b067_3 sJ1_9 (CJ0_checkIndex_df160 _ _) (Nat.le_of_ble_eq_true rfl) ⟨Nat.le_refl _, Nat.le_refl _⟩ fun v => ?_
  refine s_aload_n dJ1_charAt_3b067_6 rfl ?_
  refine s_iload_n dJ1_charAt_3b067_7 rfl ?_
  refine s_bA dJ1_charAt_3b067_8 ?_
  refine s_sipush (v := 255) dJ1_charAt_3b067_9 (by decide) ?_
  refine s_iand dJ1_charAt_3b067_12 ?_
  refine s_i2c dJ1_charAt_3b067_13 ?_
  exact s_ireturn dJ1_charAt_3b067_14 rfl (pk_nc _)
def FJ0_charAt_5068e (x0 : Nat) (x1 : Int32) : qP Int32 := qb (tG x0) fun _ => qb (FJ0_isLatin1_aae02 x0) fun v => if v = 0 then qfail else qb (tG x0) fun _ => qb (FJ1_charAt_3b067 (x0 + 100) x1) fun w => qgd (narrow .char (.int w) = .int w) (qr w)
theorem CJ0_charAt_5068e {l : Launch} {g : qG} {d : Nat} (x0 : Nat) (x1 : Int32) : qCt l g mJ0_charAt_5068e (d + 3) 0 0 cvI [.ref x0, .int x1] (FJ0_charAt_5068e x0 x1) := s_of pn_J0 (Nat.le_of_ble_eq_true rfl) fun n => by
  unfold FJ0_charAt_5068e
  refine s_aload_n dJ0_charAt_5068e_0 rfl ?_
  refine s_virtT (as := []) (rest := []) dJ0_charAt_5068e_1 vJ0_492 (CJ0_isLatin1_aae02 _) (Nat.le_of_ble_eq_true rfl) ⟨Nat.le_refl _, Nat.le_refl _⟩ fun v => ?_
  refine s_if_eq (tgt := 16) dJ0_charAt_5068e_4 (by decide) (fun c1 => s_fail) (fun c1 => ?_)
  refine s_aload_n dJ0_charAt_5068e_7 rfl ?_
  refine s_tV dJ0_charAt_5068e_8 gJ0_9 ?_
  refine s_iload_n dJ0_charAt_5068e_11 rfl ?_
  refine s_staticI (as := [.ref (x0 + 100), .int x1]) (rest := []) dJ0_charAt_5068e_12 sJ0_495 (CJ1_charAt_3b067 _ _) (Nat.le_of_ble_eq_true rfl) ⟨Nat.le_refl _, Nat.le_refl _⟩ fun w => ?_
  intro h v0 h' e
  unfold qgd at e
  split at e
  case isFalse => cases e
  case isTrue hc => exact s_ireturn dJ0_charAt_5068e_15 rfl hc h v0 h' e

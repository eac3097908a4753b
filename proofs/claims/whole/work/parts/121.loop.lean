/-- WHAT IS LEFT: an invariant of the cells under which each call of the class and the same call of the reference answer alike -/
def eStep (Inv : Nat → qH → Prop) {α : Type} (F1 F2 : qP α) (t : Nat) (h : qH) : Prop := ∃ (v : α) (h1 h2 : qH) (fs2 : List Value), F1 h = some (v, h1) ∧ F2 h1 = some (v, h2) ∧ h1[61]? = some (.inr (.inr (12, fs2))) ∧ Inv (t + 1) h2
def lawOK (Inv : Nat → qH → Prop) : Prop :=
  (∀ t h, Inv t h → ∃ fs, h[0]? = some (.inr (.inr (11, fs)))) ∧
  (∀ t h, Inv t h → Inv (t + 1) h) ∧
  (∀ (a0 : Int32) (a1 : Int32), ∀ t, t < 65 → ∀ h, Inv t h → eStep Inv (FX11_plot 0 a0 a1) (FX12_plot 61 a0 a1) t h) ∧
  (∀ (a0 : Int32), ∀ t, t < 65 → ∀ h, Inv t h → eStep Inv (FX11_shirt 0 a0) (FX12_shirt 61 a0) t h) ∧
  (∀ (a0 : Int32), ∀ t, t < 65 → ∀ h, Inv t h → eStep Inv (FX11_night 0 a0) (FX12_night 61 a0) t h) ∧
  (∀ t, t < 65 → ∀ h, Inv t h → eStep Inv (FX11_undo 0) (FX12_undo 61) t h) ∧
  (∀ (a0 : Int32), ∀ t, t < 65 → ∀ h, Inv t h → eStep Inv (FX11_nettles 0 a0) (FX12_nettles 61 a0) t h) ∧
  (∀ (a0 : Int32), ∀ t, t < 65 → ∀ h, Inv t h → eStep Inv (FX11_sewn 0 a0) (FX12_sewn 61 a0) t h) ∧
  (∀ (a0 : Int32), ∀ t, t < 65 → ∀ h, Inv t h → eStep Inv (FX11_has 0 a0) (FX12_has 61 a0) t h) ∧
  (∀ (a0 : Int32) (a1 : Int32), ∀ t, t < 65 → ∀ h, Inv t h → eStep Inv (FX11_plan 0 a0 a1) (FX12_plan 61 a0 a1) t h) ∧
  (∀ (a0 : Int32) (a1 : Int32) (a2 : Int32), ∀ t, t < 65 → ∀ h, Inv t h → eStep Inv (FX11_inTime 0 a0 a1 a2) (FX12_inTime 61 a0 a1 a2) t h) ∧
  (∀ (a0 : Int32), ∀ t, t < 65 → ∀ h, Inv t h → eStep Inv (FX11_fewest 0 a0) (FX12_fewest 61 a0) t h) ∧
  (∀ (a0 : Int32) (a1 : Int32), ∀ t, t < 65 → ∀ h, Inv t h → eStep Inv (FX11_left 0 a0 a1) (FX12_left 61 a0 a1) t h) ∧
  (∀ (a0 : Int32) (a1 : Int32) (a2 : Int32), ∀ t, t < 65 → ∀ h, Inv t h → eStep Inv (FX11_stings 0 a0 a1 a2) (FX12_stings 61 a0 a1 a2) t h) ∧
  (∀ (a0 : Int32) (a1 : Int32) (a2 : Int32) (a3 : Int32), ∀ t, t < 65 → ∀ h, Inv t h → eStep Inv (FX11_surest 0 a0 a1 a2 a3) (FX12_surest 61 a0 a1 a2 a3) t h) ∧
  (∀ (a0 : Int32) (a1 : Int32), ∀ t, t < 65 → ∀ h, Inv t h → eStep Inv (FX11_told 0 a0 a1) (FX12_told 61 a0 a1) t h) ∧
  (∀ (a0 : Int32) (a1 : Int32), ∀ t, t < 65 → ∀ h, Inv t h → eStep Inv (FX11_bare 0 a0 a1) (FX12_bare 61 a0 a1) t h) ∧
  (∀ (a0 : Int32), ∀ t, t < 65 → ∀ h, Inv t h → eStep Inv (FX11_sign 0 a0) (FX12_sign 61 a0) t h) ∧
  (∀ t, t < 65 → ∀ h, Inv t h → eStep Inv (FX11_hush 0) (FX12_hush 61) t h) ∧
  (∀ (a0 : Int32) (a1 : Int32), ∀ t, t < 65 → ∀ h, Inv t h → eStep Inv (FX11_law 0 a0 a1) (FX12_law 61 a0 a1) t h) ∧
  (∀ (a0 : Int32), ∀ t, t < 65 → ∀ h, Inv t h → eStep Inv (FX11_noLaw 0 a0) (FX12_noLaw 61 a0) t h) ∧
  (∀ (a0 : Int32), ∀ t, t < 65 → ∀ h, Inv t h → eStep Inv (FX11_word 0 a0) (FX12_word 61 a0) t h) ∧
  (∀ t, t < 65 → ∀ h, Inv t h → eStep Inv (FX11_silent 0) (FX12_silent 61) t h) ∧
  (∀ (a0 : Int32) (a1 : Int32), ∀ t, t < 65 → ∀ h, Inv t h → eStep Inv (FX11_met 0 a0 a1) (FX12_met 61 a0 a1) t h) ∧
  (∀ (a0 : Int32) (a1 : Int32), ∀ t, t < 65 → ∀ h, Inv t h → eStep Inv (FX11_show 0 a0 a1) (FX12_show 61 a0 a1) t h) ∧
  (∀ t, t < 65 → ∀ h, Inv t h → eStep Inv (FX11_noTrial 0) (FX12_noTrial 61) t h) ∧
  (∀ (a0 : Int32) (a1 : Int32), ∀ t, t < 65 → ∀ h, Inv t h → eStep Inv (FX11_lasts 0 a0 a1) (FX12_lasts 61 a0 a1) t h) ∧
  (∀ (a0 : Int64) (a1 : Int32), ∀ t, t < 65 → ∀ h, Inv t h → eStep Inv (FX11_type 0 a0 a1) (FX12_type 61 a0 a1) t h) ∧
  (∀ t, t < 65 → ∀ h, Inv t h → eStep Inv (FX11_clear 0) (FX12_clear 61) t h) ∧
  (∀ t, t < 65 → ∀ h, Inv t h → eStep Inv (FX11_read 0) (FX12_read 61) t h) ∧
  (∀ (a0 : Int32), ∀ t, t < 65 → ∀ h, Inv t h → eStep Inv (FX11_part 0 a0) (FX12_part 61 a0) t h) ∧
  (∀ (a0 : Int32), ∀ t, t < 65 → ∀ h, Inv t h → eStep Inv (FX11_imageS 0 a0) (FX12_image 61 a0) t h ∨ eStep Inv (FX11_imageN 0 a0) (FX12_image 61 a0) t h) ∧
  (∀ (a0 : Int32), ∀ t, t < 65 → ∀ h, Inv t h → eStep Inv (FX11_from 0 a0) (FX12_from 61 a0) t h) ∧
  (∀ (a0 : Int32), ∀ t, t < 65 → ∀ h, Inv t h → eStep Inv (FX11_status 0 a0) (FX12_status 61 a0) t h) ∧
  (∀ (a0 : Int32), ∀ t, t < 65 → ∀ h, Inv t h → eStep Inv (FX11_count 0 a0) (FX12_count 61 a0) t h) ∧
  (∀ t, t < 65 → ∀ h, Inv t h → eStep Inv (FX11_digest 0) (FX12_digest 61) t h)
theorem law_sub {L t : Nat} (hL : L ≤ 320) (ht : t ≤ 65) : Int32.ofNat L - 5 < nI (5 * t) ↔ L < 5 * t + 5 := by
  have h1 : (Int32.ofNat L - 5).toInt = (L : Int) - 5 := pk_sub_toInt (a := L) (b := 5) (by omega) (by omega)
  have h2 : (nI (5 * t)).toInt = ((5 * t : Nat) : Int) := nI_toInt (by omega)
  rw [Int32.lt_iff_toInt_lt, h1, h2]
  omega
theorem law_in {L t : Nat} (hL : L ≤ 320) (h : 5 * t + 5 ≤ L) (k : Nat) (hk : k < 5) : vp_in (nI (5 * t) + nI k) L := by
  rw [nI_add]
  exact vp_in_nI (by omega) (by omega)
set_option maxRecDepth 100000 in
set_option maxHeartbeats 4000000 in
theorem law_loop {l : Launch} {g : qG} (hL : g.2.2.2.2.2.1 ≤ 320) {Inv : Nat → qH → Prop} (hOK : lawOK Inv) : ∀ (N t ce sl : Nat) (h : qH), t + N = 65 → ce ≤ 100 + 23 * t → sl ≤ 5000 + 538 * t → Inv t h → qV l g mL_law 2048 0 600000 7302250 ce sl qZl 18 [(0, .ref 1000300), (1, .ref 0), (2, .ref 61), (3, .int (nI (5 * t)))] [] h := by
  obtain ⟨hI, hM, hk0, hk1, hk2, hk3, hk4, hk5, hk6, hk7, hk8, hk9, hk10, hk11, hk12, hk13, hk14, hk15, hk16, hk17, hk18, hk19, hk20, hk21, hk22, hk23, hk24, hk25, hk26, hk27, hk28, hk29, hk30, hk31, hk32, hk33⟩ := hOK
  intro N
  induction N with
  | zero =>
    intro t ce sl h ht hce hsl hInv
    refine q_iload_n dL_law_18 rfl ?_
    refine q_aload_n dL_law_19 rfl ?_
    refine q_slen dL_law_20 ?_
    refine q_iconst (v := 5) dL_law_21 (by decide) ?_
    refine q_isub dL_law_22 ?_
    refine q_icmp_gt (tgt := 1104) dL_law_23 (by decide) (fun c => ?_) (fun c => ?_)
    · refine q_iconst (v := 1) dL_law_1104 (by decide) ?_
      exact q_lawret dL_law_1105 (by omega) (by omega)
    · exact absurd ((law_sub hL (by omega)).mpr (by omega)) c
  | succ N ih =>
    intro t ce sl h ht hce hsl hInv
    refine q_iload_n dL_law_18 rfl ?_
    refine q_aload_n dL_law_19 rfl ?_
    refine q_slen dL_law_20 ?_
    refine q_iconst (v := 5) dL_law_21 (by decide) ?_
    refine q_isub dL_law_22 ?_
    refine q_icmp_gt (tgt := 1104) dL_law_23 (by decide) (fun c => ?_) (fun c => ?_)
    · refine q_iconst (v := 1) dL_law_1104 (by decide) ?_
      exact q_lawret dL_law_1105 (by omega) (by omega)
    · have hlt : 5 * t + 5 ≤ g.2.2.2.2.2.1 := by
        rcases Nat.lt_or_ge g.2.2.2.2.2.1 (5 * t + 5) with q | q
        · exact absurd ((law_sub hL (by omega)).mpr q) c
        · exact q
      have hv0 : vp_in (nI (5 * t)) g.2.2.2.2.2.1 := vp_in_nI (by omega) (by omega)
      have hv1 : vp_in (nI (5 * t) + (1 : Int32)) g.2.2.2.2.2.1 := law_in hL hlt 1 (by decide)
      have hv2 : vp_in (nI (5 * t) + (2 : Int32)) g.2.2.2.2.2.1 := law_in hL hlt 2 (by decide)
      have hv3 : vp_in (nI (5 * t) + (3 : Int32)) g.2.2.2.2.2.1 := law_in hL hlt 3 (by decide)
      have hv4 : vp_in (nI (5 * t) + (4 : Int32)) g.2.2.2.2.2.1 := law_in hL hlt 4 (by decide)
      obtain ⟨fs, hx⟩ := hI t h hInv
      have nxt : ∀ (ce sl : Nat) (h2 : qH), ce ≤ 100 + 23 * (t + 1) → sl ≤ 5000 + 538 * (t + 1) → Inv (t + 1) h2 → qV l g mL_law 2048 0 600000 7302250 ce sl qZl 1098 [(0, .ref 1000300), (1, .ref 0), (2, .ref 61), (3, .int (nI (5 * t)))] [] h2 := by
        intro ce sl h2 hce hsl hI2
        refine q_iinc (lv' := [(3, .int (nI (5 * t) + Int32.ofInt 5)), (0, .ref 1000300), (1, .ref 0), (2, .ref 61)]) dL_law_1098 rfl (by decide) rfl ?_
        refine q_goto (tgt := 18) dL_law_1101 (by decide) ?_
        have e5 : nI (5 * t) + Int32.ofInt 5 = nI (5 * (t + 1)) := by
          rw [show Int32.ofInt 5 = nI 5 from rfl, nI_add]
          rfl
        rw [e5]
        exact q_locals (fun q hq => by
          simp only [List.mem_cons, List.not_mem_nil, or_false] at hq ⊢
          rcases hq with h | h | h | h
          · exact Or.inr (Or.inl h)
          · exact Or.inr (Or.inr (Or.inl h))
          · exact Or.inr (Or.inr (Or.inr h))
          · exact Or.inl h) (ih (t + 1) ce sl h2 (by omega) hce hsl hI2)
      refine q_aload_n dL_law_26 rfl ?_
      refine q_iload_n dL_law_27 rfl ?_
      refine q_sld dL_law_28 hv0 ?_
      refine q_bipush (v := 63) dL_law_29 (by decide) ?_
      refine q_iand dL_law_31 ?_
      obtain ⟨j, hj, ej⟩ := pk_andE (lx g (nI (5 * t))) (m := 63) 6 (by decide)
      rcases (show j = 0 ∨ j = 1 ∨ j = 2 ∨ j = 3 ∨ j = 4 ∨ j = 5 ∨ j = 6 ∨ j = 7 ∨ j = 8 ∨ j = 9 ∨ j = 10 ∨ j = 11 ∨ j = 12 ∨ j = 13 ∨ j = 14 ∨ j = 15 ∨ j = 16 ∨ j = 17 ∨ j = 18 ∨ j = 19 ∨ j = 20 ∨ j = 21 ∨ j = 22 ∨ j = 23 ∨ j = 24 ∨ j = 25 ∨ j = 26 ∨ j = 27 ∨ j = 28 ∨ j = 29 ∨ j = 30 ∨ j = 31 ∨ j = 32 ∨ j = 33 ∨ 34 ≤ j by omega) with rfl | rfl | rfl | rfl | rfl | rfl | rfl | rfl | rfl | rfl | rfl | rfl | rfl | rfl | rfl | rfl | rfl | rfl | rfl | rfl | rfl | rfl | rfl | rfl | rfl | rfl | rfl | rfl | rfl | rfl | rfl | rfl | rfl | rfl | hj34
      · refine q_tableIn (off := 152) (tgt := 184) dL_law_32 (by rw [ej]; decide) (by rw [ej]; decide) (by rw [ej]; rfl) (by decide) ?_
        obtain ⟨v, h1, h2, fs2, e1, e2, hm, hI2⟩ := hk0 _ _ t (by omega) h hInv
        exact law_c0 hv1 hv2 hv3 hv4 (by omega) (by omega) hx hm e1 e2 (nxt ce sl h2 (by omega) (by omega) hI2)
      · refine q_tableIn (off := 185) (tgt := 217) dL_law_32 (by rw [ej]; decide) (by rw [ej]; decide) (by rw [ej]; rfl) (by decide) ?_
        obtain ⟨v, h1, h2, fs2, e1, e2, hm, hI2⟩ := hk1 _ t (by omega) h hInv
        exact law_c1 hv1 hv2 hv3 hv4 (by omega) (by omega) hx hm e1 e2 (nxt ce sl h2 (by omega) (by omega) hI2)
      · refine q_tableIn (off := 208) (tgt := 240) dL_law_32 (by rw [ej]; decide) (by rw [ej]; decide) (by rw [ej]; rfl) (by decide) ?_
        obtain ⟨v, h1, h2, fs2, e1, e2, hm, hI2⟩ := hk2 _ t (by omega) h hInv
        exact law_c2 hv1 hv2 hv3 hv4 (by omega) (by omega) hx hm e1 e2 (nxt ce sl h2 (by omega) (by omega) hI2)
      · refine q_tableIn (off := 231) (tgt := 263) dL_law_32 (by rw [ej]; decide) (by rw [ej]; decide) (by rw [ej]; rfl) (by decide) ?_
        obtain ⟨v, h1, h2, fs2, e1, e2, hm, hI2⟩ := hk3  t (by omega) h hInv
        exact law_c3 hv1 hv2 hv3 hv4 (by omega) (by omega) hx hm e1 e2 (nxt ce sl h2 (by omega) (by omega) hI2)
      · refine q_tableIn (off := 244) (tgt := 276) dL_law_32 (by rw [ej]; decide) (by rw [ej]; decide) (by rw [ej]; rfl) (by decide) ?_
        obtain ⟨v, h1, h2, fs2, e1, e2, hm, hI2⟩ := hk4 _ t (by omega) h hInv
        exact law_c4 hv1 hv2 hv3 hv4 (by omega) (by omega) hx hm e1 e2 (nxt ce sl h2 (by omega) (by omega) hI2)
      · refine q_tableIn (off := 267) (tgt := 299) dL_law_32 (by rw [ej]; decide) (by rw [ej]; decide) (by rw [ej]; rfl) (by decide) ?_
        obtain ⟨v, h1, h2, fs2, e1, e2, hm, hI2⟩ := hk5 _ t (by omega) h hInv
        exact law_c5 hv1 hv2 hv3 hv4 (by omega) (by omega) hx hm e1 e2 (nxt ce sl h2 (by omega) (by omega) hI2)
      · refine q_tableIn (off := 290) (tgt := 322) dL_law_32 (by rw [ej]; decide) (by rw [ej]; decide) (by rw [ej]; rfl) (by decide) ?_
        obtain ⟨v, h1, h2, fs2, e1, e2, hm, hI2⟩ := hk6 _ t (by omega) h hInv
        exact law_c6 hv1 hv2 hv3 hv4 (by omega) (by omega) hx hm e1 e2 (nxt ce sl h2 (by omega) (by omega) hI2)
      · refine q_tableIn (off := 313) (tgt := 345) dL_law_32 (by rw [ej]; decide) (by rw [ej]; decide) (by rw [ej]; rfl) (by decide) ?_
        obtain ⟨v, h1, h2, fs2, e1, e2, hm, hI2⟩ := hk7 _ _ t (by omega) h hInv
        exact law_c7 hv1 hv2 hv3 hv4 (by omega) (by omega) hx hm e1 e2 (nxt ce sl h2 (by omega) (by omega) hI2)
      · refine q_tableIn (off := 346) (tgt := 378) dL_law_32 (by rw [ej]; decide) (by rw [ej]; decide) (by rw [ej]; rfl) (by decide) ?_
        obtain ⟨v, h1, h2, fs2, e1, e2, hm, hI2⟩ := hk8 _ _ _ t (by omega) h hInv
        exact law_c8 hv1 hv2 hv3 hv4 (by omega) (by omega) hx hm e1 e2 (nxt ce sl h2 (by omega) (by omega) hI2)
      · refine q_tableIn (off := 389) (tgt := 421) dL_law_32 (by rw [ej]; decide) (by rw [ej]; decide) (by rw [ej]; rfl) (by decide) ?_
        obtain ⟨v, h1, h2, fs2, e1, e2, hm, hI2⟩ := hk9 _ t (by omega) h hInv
        exact law_c9 hv1 hv2 hv3 hv4 (by omega) (by omega) hx hm e1 e2 (nxt ce sl h2 (by omega) (by omega) hI2)
      · refine q_tableIn (off := 412) (tgt := 444) dL_law_32 (by rw [ej]; decide) (by rw [ej]; decide) (by rw [ej]; rfl) (by decide) ?_
        obtain ⟨v, h1, h2, fs2, e1, e2, hm, hI2⟩ := hk10 _ _ t (by omega) h hInv
        exact law_c10 hv1 hv2 hv3 hv4 (by omega) (by omega) hx hm e1 e2 (nxt ce sl h2 (by omega) (by omega) hI2)
      · refine q_tableIn (off := 445) (tgt := 477) dL_law_32 (by rw [ej]; decide) (by rw [ej]; decide) (by rw [ej]; rfl) (by decide) ?_
        obtain ⟨v, h1, h2, fs2, e1, e2, hm, hI2⟩ := hk11 _ _ _ t (by omega) h hInv
        exact law_c11 hv1 hv2 hv3 hv4 (by omega) (by omega) hx hm e1 e2 (nxt ce sl h2 (by omega) (by omega) hI2)
      · refine q_tableIn (off := 488) (tgt := 520) dL_law_32 (by rw [ej]; decide) (by rw [ej]; decide) (by rw [ej]; rfl) (by decide) ?_
        obtain ⟨v, h1, h2, fs2, e1, e2, hm, hI2⟩ := hk12 _ _ _ _ t (by omega) h hInv
        exact law_c12 hv1 hv2 hv3 hv4 (by omega) (by omega) hx hm e1 e2 (nxt ce sl h2 (by omega) (by omega) hI2)
      · refine q_tableIn (off := 541) (tgt := 573) dL_law_32 (by rw [ej]; decide) (by rw [ej]; decide) (by rw [ej]; rfl) (by decide) ?_
        obtain ⟨v, h1, h2, fs2, e1, e2, hm, hI2⟩ := hk13 _ _ t (by omega) h hInv
        exact law_c13 hv1 hv2 hv3 hv4 (by omega) (by omega) hx hm e1 e2 (nxt ce sl h2 (by omega) (by omega) hI2)
      · refine q_tableIn (off := 574) (tgt := 606) dL_law_32 (by rw [ej]; decide) (by rw [ej]; decide) (by rw [ej]; rfl) (by decide) ?_
        obtain ⟨v, h1, h2, fs2, e1, e2, hm, hI2⟩ := hk14 _ _ t (by omega) h hInv
        exact law_c14 hv1 hv2 hv3 hv4 (by omega) (by omega) hx hm e1 e2 (nxt ce sl h2 (by omega) (by omega) hI2)
      · refine q_tableIn (off := 607) (tgt := 639) dL_law_32 (by rw [ej]; decide) (by rw [ej]; decide) (by rw [ej]; rfl) (by decide) ?_
        obtain ⟨v, h1, h2, fs2, e1, e2, hm, hI2⟩ := hk15 _ t (by omega) h hInv
        exact law_c15 hv1 hv2 hv3 hv4 (by omega) (by omega) hx hm e1 e2 (nxt ce sl h2 (by omega) (by omega) hI2)
      · refine q_tableIn (off := 630) (tgt := 662) dL_law_32 (by rw [ej]; decide) (by rw [ej]; decide) (by rw [ej]; rfl) (by decide) ?_
        obtain ⟨v, h1, h2, fs2, e1, e2, hm, hI2⟩ := hk16  t (by omega) h hInv
        exact law_c16 hv1 hv2 hv3 hv4 (by omega) (by omega) hx hm e1 e2 (nxt ce sl h2 (by omega) (by omega) hI2)
      · refine q_tableIn (off := 643) (tgt := 675) dL_law_32 (by rw [ej]; decide) (by rw [ej]; decide) (by rw [ej]; rfl) (by decide) ?_
        obtain ⟨v, h1, h2, fs2, e1, e2, hm, hI2⟩ := hk17 _ _ t (by omega) h hInv
        exact law_c17 hv1 hv2 hv3 hv4 (by omega) (by omega) hx hm e1 e2 (nxt ce sl h2 (by omega) (by omega) hI2)
      · refine q_tableIn (off := 676) (tgt := 708) dL_law_32 (by rw [ej]; decide) (by rw [ej]; decide) (by rw [ej]; rfl) (by decide) ?_
        obtain ⟨v, h1, h2, fs2, e1, e2, hm, hI2⟩ := hk18 _ t (by omega) h hInv
        exact law_c18 hv1 hv2 hv3 hv4 (by omega) (by omega) hx hm e1 e2 (nxt ce sl h2 (by omega) (by omega) hI2)
      · refine q_tableIn (off := 699) (tgt := 731) dL_law_32 (by rw [ej]; decide) (by rw [ej]; decide) (by rw [ej]; rfl) (by decide) ?_
        obtain ⟨v, h1, h2, fs2, e1, e2, hm, hI2⟩ := hk19 _ t (by omega) h hInv
        exact law_c19 hv1 hv2 hv3 hv4 (by omega) (by omega) hx hm e1 e2 (nxt ce sl h2 (by omega) (by omega) hI2)
      · refine q_tableIn (off := 722) (tgt := 754) dL_law_32 (by rw [ej]; decide) (by rw [ej]; decide) (by rw [ej]; rfl) (by decide) ?_
        obtain ⟨v, h1, h2, fs2, e1, e2, hm, hI2⟩ := hk20  t (by omega) h hInv
        exact law_c20 hv1 hv2 hv3 hv4 (by omega) (by omega) hx hm e1 e2 (nxt ce sl h2 (by omega) (by omega) hI2)
      · refine q_tableIn (off := 735) (tgt := 767) dL_law_32 (by rw [ej]; decide) (by rw [ej]; decide) (by rw [ej]; rfl) (by decide) ?_
        obtain ⟨v, h1, h2, fs2, e1, e2, hm, hI2⟩ := hk21 _ _ t (by omega) h hInv
        exact law_c21 hv1 hv2 hv3 hv4 (by omega) (by omega) hx hm e1 e2 (nxt ce sl h2 (by omega) (by omega) hI2)
      · refine q_tableIn (off := 768) (tgt := 800) dL_law_32 (by rw [ej]; decide) (by rw [ej]; decide) (by rw [ej]; rfl) (by decide) ?_
        obtain ⟨v, h1, h2, fs2, e1, e2, hm, hI2⟩ := hk22 _ _ t (by omega) h hInv
        exact law_c22 hv1 hv2 hv3 hv4 (by omega) (by omega) hx hm e1 e2 (nxt ce sl h2 (by omega) (by omega) hI2)
      · refine q_tableIn (off := 801) (tgt := 833) dL_law_32 (by rw [ej]; decide) (by rw [ej]; decide) (by rw [ej]; rfl) (by decide) ?_
        obtain ⟨v, h1, h2, fs2, e1, e2, hm, hI2⟩ := hk23  t (by omega) h hInv
        exact law_c23 hv1 hv2 hv3 hv4 (by omega) (by omega) hx hm e1 e2 (nxt ce sl h2 (by omega) (by omega) hI2)
      · refine q_tableIn (off := 814) (tgt := 846) dL_law_32 (by rw [ej]; decide) (by rw [ej]; decide) (by rw [ej]; rfl) (by decide) ?_
        obtain ⟨v, h1, h2, fs2, e1, e2, hm, hI2⟩ := hk24 _ _ t (by omega) h hInv
        exact law_c24 hv1 hv2 hv3 hv4 (by omega) (by omega) hx hm e1 e2 (nxt ce sl h2 (by omega) (by omega) hI2)
      · refine q_tableIn (off := 847) (tgt := 879) dL_law_32 (by rw [ej]; decide) (by rw [ej]; decide) (by rw [ej]; rfl) (by decide) ?_
        obtain ⟨v, h1, h2, fs2, e1, e2, hm, hI2⟩ := hk25 _ _ t (by omega) h hInv
        exact law_c25 hv1 hv2 hv3 hv4 (by omega) (by omega) hx hm e1 e2 (nxt ce sl h2 (by omega) (by omega) hI2)
      · refine q_tableIn (off := 910) (tgt := 942) dL_law_32 (by rw [ej]; decide) (by rw [ej]; decide) (by rw [ej]; rfl) (by decide) ?_
        obtain ⟨v, h1, h2, fs2, e1, e2, hm, hI2⟩ := hk26  t (by omega) h hInv
        exact law_c26 hv1 hv2 hv3 hv4 (by omega) (by omega) hx hm e1 e2 (nxt ce sl h2 (by omega) (by omega) hI2)
      · refine q_tableIn (off := 923) (tgt := 955) dL_law_32 (by rw [ej]; decide) (by rw [ej]; decide) (by rw [ej]; rfl) (by decide) ?_
        obtain ⟨v, h1, h2, fs2, e1, e2, hm, hI2⟩ := hk27  t (by omega) h hInv
        exact law_c27 hv1 hv2 hv3 hv4 (by omega) (by omega) hx hm e1 e2 (nxt ce sl h2 (by omega) (by omega) hI2)
      · refine q_tableIn (off := 936) (tgt := 968) dL_law_32 (by rw [ej]; decide) (by rw [ej]; decide) (by rw [ej]; rfl) (by decide) ?_
        obtain ⟨v, h1, h2, fs2, e1, e2, hm, hI2⟩ := hk28 _ t (by omega) h hInv
        exact law_c28 hv1 hv2 hv3 hv4 (by omega) (by omega) hx hm e1 e2 (nxt ce sl h2 (by omega) (by omega) hI2)
      · refine q_tableIn (off := 960) (tgt := 992) dL_law_32 (by rw [ej]; decide) (by rw [ej]; decide) (by rw [ej]; rfl) (by decide) ?_
        rcases hk29 _ t (by omega) h hInv with ⟨v, h1, h2, fs2, e1, e2, hm, hI2⟩ | ⟨v, h1, h2, fs2, e1, e2, hm, hI2⟩
        · exact law_c29S hv1 hv2 hv3 hv4 (by omega) (by omega) hx hm e1 e2 (nxt ce sl h2 (by omega) (by omega) hI2)
        · exact law_c29N hv1 hv2 hv3 hv4 (by omega) (by omega) hx hm e1 e2 (nxt (ce + 23) (sl + 538) h2 (by omega) (by omega) hI2)
      · refine q_tableIn (off := 983) (tgt := 1015) dL_law_32 (by rw [ej]; decide) (by rw [ej]; decide) (by rw [ej]; rfl) (by decide) ?_
        obtain ⟨v, h1, h2, fs2, e1, e2, hm, hI2⟩ := hk30 _ t (by omega) h hInv
        exact law_c30 hv1 hv2 hv3 hv4 (by omega) (by omega) hx hm e1 e2 (nxt ce sl h2 (by omega) (by omega) hI2)
      · refine q_tableIn (off := 1006) (tgt := 1038) dL_law_32 (by rw [ej]; decide) (by rw [ej]; decide) (by rw [ej]; rfl) (by decide) ?_
        obtain ⟨v, h1, h2, fs2, e1, e2, hm, hI2⟩ := hk31 _ t (by omega) h hInv
        exact law_c31 hv1 hv2 hv3 hv4 (by omega) (by omega) hx hm e1 e2 (nxt ce sl h2 (by omega) (by omega) hI2)
      · refine q_tableIn (off := 1029) (tgt := 1061) dL_law_32 (by rw [ej]; decide) (by rw [ej]; decide) (by rw [ej]; rfl) (by decide) ?_
        obtain ⟨v, h1, h2, fs2, e1, e2, hm, hI2⟩ := hk32 _ t (by omega) h hInv
        exact law_c32 hv1 hv2 hv3 hv4 (by omega) (by omega) hx hm e1 e2 (nxt ce sl h2 (by omega) (by omega) hI2)
      · refine q_tableIn (off := 1052) (tgt := 1084) dL_law_32 (by rw [ej]; decide) (by rw [ej]; decide) (by rw [ej]; rfl) (by decide) ?_
        obtain ⟨v, h1, h2, fs2, e1, e2, hm, hI2⟩ := hk33  t (by omega) h hInv
        exact law_c33 hv1 hv2 hv3 hv4 (by omega) (by omega) hx hm e1 e2 (nxt ce sl h2 (by omega) (by omega) hI2)
      · refine q_tableOut (tgt := 1098) dL_law_32 (Or.inr ?_) (by decide) ?_
        · rw [ej, nI_toInt (by omega)]
          omega
        · exact nxt ce sl h (by omega) (by omega) (hM t h hInv)

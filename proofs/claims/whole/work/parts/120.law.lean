/-! the law: its own rows, a lemma a case; what is left is said of programs alone -/
def mL_law : qMt := (x, code, maxLocals, ret)
def qZl : List Frame → Array Value → State → State → Prop := fun below args s => lw_Z below args s
def lx (g : qG) (i : Int32) : Int32 := g.2.2.2.2.2.2 i.toNatClampNeg
section LW
variable {l : Launch} {g : qG} {M : qMt} {d n mc ms ce sl : Nat} {Z : List Frame → Array Value → State → State → Prop} {pc : Nat} {lv : List (Nat × Value)} {st : List Value} {h : qH}
theorem q_sad (g : qG) : qad g 1000300 = g.2.2.2.1 300 := by
  show qad g (1000000 + 300) = _
  rw [q_tad]
theorem q_slen (hd : decode M.2.1 pc = .ok (.arraylength, 1)) (k : qV l g M d n mc ms ce sl Z (pc + 1) lv (.int (Int32.ofNat g.2.2.2.2.2.1) :: st) h) : qV l g M d n mc ms ce sl Z pc lv (.ref 1000300 :: st) h := by
  intro p e s m args below meth c H locs ls hF hs hn hl hI hS
  have hX := hF.2.2.2.2.2.2.2.1.2.2.2.2.2.2.2
  show W _ _ _ _ _ _ _ _ _ _ _ _ _ _ _ (F0 m pc ls (.ref (qad g 1000300) :: st.map (qv g)))
  rw [q_sad]
  exact va_slen (A := qA g) hF.1 hF.2.1 hX.1 (Nat.lt_of_lt_of_le hX.2.1 hX.2.2) (Nat.not_le.mpr hX.2.1) hS hd (k p e s m args below meth c H locs ls hF hs hn hl hI hS)
theorem q_sld {j : Int32} (hd : decode M.2.1 pc = .ok (.iaload, 1)) (hj : vp_in j g.2.2.2.2.2.1) (k : qV l g M d n mc ms ce sl Z (pc + 1) lv (.int (lx g j) :: st) h) : qV l g M d n mc ms ce sl Z pc lv (.int j :: .ref 1000300 :: st) h := by
  intro p e s m args below meth c H locs ls hF hs hn hl hI hS
  have hX := hF.2.2.2.2.2.2.2.1.2.2.2.2.2.2.2
  show W _ _ _ _ _ _ _ _ _ _ _ _ _ _ _ (F0 m pc ls (.int j :: .ref (qad g 1000300) :: st.map (qv g)))
  rw [q_sad]
  exact va_sld (A := qA g) hF.1 hF.2.1 hX.1 (Nat.lt_of_lt_of_le hX.2.1 hX.2.2) (Nat.not_le.mpr hX.2.1) hS hj hd (k p e s m args below meth c H locs ls hF hs hn hl hI hS)
end LW
theorem q_lwret {p : Program} {l : Launch} {e : Env} {R : Room} {s : State} {m : MethodId} {args : Array Value} {below : List Frame} {meth : Method} {c : Code} (hx : p.tables.exec = Jvm.exec) (hb : c.code = code) (hr : meth.sig.returnType = ret) (hlocks : meth.locks = false) {pc : Nat} {H : Heap} {ls : Array Slot} (hdg : decode code pc = .ok (.ireturn, 1)) : W p l e R s m args below meth c H [] 600000 7302250 (lw_Z below args s) (F0 m pc ls [.int 1]) := by
  intro T hT X
  obtain ⟨fs, hret, hrun, hended, hW, hframe⟩ := X.leave (v := some (.int 1)) (hlocks := hlocks) (fun h => by rw [hr] at h; cases h)
  have hmeth' : T.vm.method? m = some meth := X.method'
  refine ⟨T.setFrames fs, ?_, .returned (some (.int 1)), hrun, hended, rfl, ⟨_, rfl⟩, hW, hframe⟩
  jvm_step X.here [X.here.top, hx, hb, hdg, hmeth', hr, ret, narrow_b1]
  (try refine ⟨rfl, ?_⟩); (try refine ⟨rfl, ?_⟩)
  first | (intro acts; rw [hret _ acts rfl rfl rfl]) | rw [hret _ _ rfl rfl rfl]
  exact Steps.refl _
theorem q_lawret {l : Launch} {g : qG} {ce sl : Nat} {pc : Nat} {lv : List (Nat × Value)} {h : qH} (hd : decode mL_law.2.1 pc = .ok (.ireturn, 1)) (hc : ce ≤ 600000) (hs0 : sl ≤ 7302250) : qV l g mL_law 2048 0 600000 7302250 ce sl qZl pc lv [.int 1] h := by
  intro p e s m args below meth c H locs ls hF hs hn hl hI hS
  refine va_forget (fun q hq => ?_) ?_
  · have := hS.2.2 q hq
    rw [hs]
    exact this
  · exact W.widen hc hs0 (q_lwret hF.1 hF.2.1 hF.2.2.1 hF.2.2.2.2.2.1 hd)
theorem lg_cmp_self (x : Int64) : lg_cmp x x = 0 := by unfold lg_cmp; simp
set_option maxRecDepth 100000 in
set_option maxHeartbeats 4000000 in
theorem law_c0 {l : Launch} {g : qG} {ce sl : Nat} {i : Int32} {h h1 h2 : qH} {v : Int32} {fs fs2 : List Value} (hv1 : vp_in (i + (1 : Int32)) g.2.2.2.2.2.1) (hv2 : vp_in (i + (2 : Int32)) g.2.2.2.2.2.1) (hv3 : vp_in (i + (3 : Int32)) g.2.2.2.2.2.1) (hv4 : vp_in (i + (4 : Int32)) g.2.2.2.2.2.1) (hce : ce ≤ 600000) (hsl : sl ≤ 7302250) (hx : h[0]? = some (.inr (.inr (11, fs)))) (hm : h1[61]? = some (.inr (.inr (12, fs2)))) (e1 : FX11_plot 0 (lx g (i + (1 : Int32))) (lx g (i + (2 : Int32))) h = some (v, h1)) (e2 : FX12_plot 61 (lx g (i + (1 : Int32))) (lx g (i + (2 : Int32))) h1 = some (v, h2)) (kk : qV l g mL_law 2048 0 600000 7302250 ce sl qZl 1098 [(0, .ref 1000300), (1, .ref 0), (2, .ref 61), (3, .int i)] [] h2) : qV l g mL_law 2048 0 600000 7302250 ce sl qZl 184 [(0, .ref 1000300), (1, .ref 0), (2, .ref 61), (3, .int i)] [] h := by
  refine q_aload_n dL_law_184 rfl ?_
  refine q_aload_n dL_law_185 rfl ?_
  refine q_iload_n dL_law_186 rfl ?_
  refine q_iconst (v := 1) dL_law_187 (by decide) ?_
  refine q_iadd dL_law_188 ?_
  refine q_sld dL_law_189 hv1 ?_
  refine q_aload_n dL_law_190 rfl ?_
  refine q_iload_n dL_law_191 rfl ?_
  refine q_iconst (v := 2) dL_law_192 (by decide) ?_
  refine q_iadd dL_law_193 ?_
  refine q_sld dL_law_194 hv2 ?_
  refine q_virt (as := [.int (lx g (i + (1 : Int32))), .int (lx g (i + (2 : Int32)))]) (rest := []) dL_law_195 vL_13 hx (CX11_plot _ _ _ h v h1 e1) (Nat.le_of_ble_eq_true rfl) ⟨hce, hsl⟩ (fun w y hy _ => ?_)
  rw [hy.1, hy.2]
  show qV l g mL_law 2048 0 600000 7302250 ce sl qZl 198 [(0, .ref 1000300), (1, .ref 0), (2, .ref 61), (3, .int i)] [.int v] h1
  refine q_aload_n dL_law_198 rfl ?_
  refine q_aload_n dL_law_199 rfl ?_
  refine q_iload_n dL_law_200 rfl ?_
  refine q_iconst (v := 1) dL_law_201 (by decide) ?_
  refine q_iadd dL_law_202 ?_
  refine q_sld dL_law_203 hv1 ?_
  refine q_aload_n dL_law_204 rfl ?_
  refine q_iload_n dL_law_205 rfl ?_
  refine q_iconst (v := 2) dL_law_206 (by decide) ?_
  refine q_iadd dL_law_207 ?_
  refine q_sld dL_law_208 hv2 ?_
  refine q_virt (as := [.int (lx g (i + (1 : Int32))), .int (lx g (i + (2 : Int32)))]) (rest := [.int v]) dL_law_209 vL_17 hm (CX12_plot _ _ _ h1 v h2 e2) (Nat.le_of_ble_eq_true rfl) ⟨hce, hsl⟩ (fun w y hy _ => ?_)
  rw [hy.1, hy.2]
  show qV l g mL_law 2048 0 600000 7302250 ce sl qZl 212 [(0, .ref 1000300), (1, .ref 0), (2, .ref 61), (3, .int i)] [.int v, .int v] h2
  exact q_icmp_eq (tgt := 1098) dL_law_212 (by decide) (fun _ => kk) (fun q => absurd rfl q)
set_option maxRecDepth 100000 in
set_option maxHeartbeats 4000000 in
theorem law_c1 {l : Launch} {g : qG} {ce sl : Nat} {i : Int32} {h h1 h2 : qH} {v : Int32} {fs fs2 : List Value} (hv1 : vp_in (i + (1 : Int32)) g.2.2.2.2.2.1) (hv2 : vp_in (i + (2 : Int32)) g.2.2.2.2.2.1) (hv3 : vp_in (i + (3 : Int32)) g.2.2.2.2.2.1) (hv4 : vp_in (i + (4 : Int32)) g.2.2.2.2.2.1) (hce : ce ≤ 600000) (hsl : sl ≤ 7302250) (hx : h[0]? = some (.inr (.inr (11, fs)))) (hm : h1[61]? = some (.inr (.inr (12, fs2)))) (e1 : FX11_shirt 0 (lx g (i + (1 : Int32))) h = some (v, h1)) (e2 : FX12_shirt 61 (lx g (i + (1 : Int32))) h1 = some (v, h2)) (kk : qV l g mL_law 2048 0 600000 7302250 ce sl qZl 1098 [(0, .ref 1000300), (1, .ref 0), (2, .ref 61), (3, .int i)] [] h2) : qV l g mL_law 2048 0 600000 7302250 ce sl qZl 217 [(0, .ref 1000300), (1, .ref 0), (2, .ref 61), (3, .int i)] [] h := by
  refine q_aload_n dL_law_217 rfl ?_
  refine q_aload_n dL_law_218 rfl ?_
  refine q_iload_n dL_law_219 rfl ?_
  refine q_iconst (v := 1) dL_law_220 (by decide) ?_
  refine q_iadd dL_law_221 ?_
  refine q_sld dL_law_222 hv1 ?_
  refine q_virt (as := [.int (lx g (i + (1 : Int32)))]) (rest := []) dL_law_223 vL_18 hx (CX11_shirt _ _ h v h1 e1) (Nat.le_of_ble_eq_true rfl) ⟨hce, hsl⟩ (fun w y hy _ => ?_)
  rw [hy.1, hy.2]
  show qV l g mL_law 2048 0 600000 7302250 ce sl qZl 226 [(0, .ref 1000300), (1, .ref 0), (2, .ref 61), (3, .int i)] [.int v] h1
  refine q_aload_n dL_law_226 rfl ?_
  refine q_aload_n dL_law_227 rfl ?_
  refine q_iload_n dL_law_228 rfl ?_
  refine q_iconst (v := 1) dL_law_229 (by decide) ?_
  refine q_iadd dL_law_230 ?_
  refine q_sld dL_law_231 hv1 ?_
  refine q_virt (as := [.int (lx g (i + (1 : Int32)))]) (rest := [.int v]) dL_law_232 vL_22 hm (CX12_shirt _ _ h1 v h2 e2) (Nat.le_of_ble_eq_true rfl) ⟨hce, hsl⟩ (fun w y hy _ => ?_)
  rw [hy.1, hy.2]
  show qV l g mL_law 2048 0 600000 7302250 ce sl qZl 235 [(0, .ref 1000300), (1, .ref 0), (2, .ref 61), (3, .int i)] [.int v, .int v] h2
  exact q_icmp_eq (tgt := 1098) dL_law_235 (by decide) (fun _ => kk) (fun q => absurd rfl q)
set_option maxRecDepth 100000 in
set_option maxHeartbeats 4000000 in
theorem law_c2 {l : Launch} {g : qG} {ce sl : Nat} {i : Int32} {h h1 h2 : qH} {v : Int32} {fs fs2 : List Value} (hv1 : vp_in (i + (1 : Int32)) g.2.2.2.2.2.1) (hv2 : vp_in (i + (2 : Int32)) g.2.2.2.2.2.1) (hv3 : vp_in (i + (3 : Int32)) g.2.2.2.2.2.1) (hv4 : vp_in (i + (4 : Int32)) g.2.2.2.2.2.1) (hce : ce ≤ 600000) (hsl : sl ≤ 7302250) (hx : h[0]? = some (.inr (.inr (11, fs)))) (hm : h1[61]? = some (.inr (.inr (12, fs2)))) (e1 : FX11_night 0 (lx g (i + (1 : Int32))) h = some (v, h1)) (e2 : FX12_night 61 (lx g (i + (1 : Int32))) h1 = some (v, h2)) (kk : qV l g mL_law 2048 0 600000 7302250 ce sl qZl 1098 [(0, .ref 1000300), (1, .ref 0), (2, .ref 61), (3, .int i)] [] h2) : qV l g mL_law 2048 0 600000 7302250 ce sl qZl 240 [(0, .ref 1000300), (1, .ref 0), (2, .ref 61), (3, .int i)] [] h := by
  refine q_aload_n dL_law_240 rfl ?_
  refine q_aload_n dL_law_241 rfl ?_
  refine q_iload_n dL_law_242 rfl ?_
  refine q_iconst (v := 1) dL_law_243 (by decide) ?_
  refine q_iadd dL_law_244 ?_
  refine q_sld dL_law_245 hv1 ?_
  refine q_virt (as := [.int (lx g (i + (1 : Int32)))]) (rest := []) dL_law_246 vL_23 hx (CX11_night _ _ h v h1 e1) (Nat.le_of_ble_eq_true rfl) ⟨hce, hsl⟩ (fun w y hy _ => ?_)
  rw [hy.1, hy.2]
  show qV l g mL_law 2048 0 600000 7302250 ce sl qZl 249 [(0, .ref 1000300), (1, .ref 0), (2, .ref 61), (3, .int i)] [.int v] h1
  refine q_aload_n dL_law_249 rfl ?_
  refine q_aload_n dL_law_250 rfl ?_
  refine q_iload_n dL_law_251 rfl ?_
  refine q_iconst (v := 1) dL_law_252 (by decide) ?_
  refine q_iadd dL_law_253 ?_
  refine q_sld dL_law_254 hv1 ?_
  refine q_virt (as := [.int (lx g (i + (1 : Int32)))]) (rest := [.int v]) dL_law_255 vL_26 hm (CX12_night _ _ h1 v h2 e2) (Nat.le_of_ble_eq_true rfl) ⟨hce, hsl⟩ (fun w y hy _ => ?_)
  rw [hy.1, hy.2]
  show qV l g mL_law 2048 0 600000 7302250 ce sl qZl 258 [(0, .ref 1000300), (1, .ref 0), (2, .ref 61), (3, .int i)] [.int v, .int v] h2
  exact q_icmp_eq (tgt := 1098) dL_law_258 (by decide) (fun _ => kk) (fun q => absurd rfl q)
set_option maxRecDepth 100000 in
set_option maxHeartbeats 4000000 in
theorem law_c3 {l : Launch} {g : qG} {ce sl : Nat} {i : Int32} {h h1 h2 : qH} {v : Int32} {fs fs2 : List Value} (hv1 : vp_in (i + (1 : Int32)) g.2.2.2.2.2.1) (hv2 : vp_in (i + (2 : Int32)) g.2.2.2.2.2.1) (hv3 : vp_in (i + (3 : Int32)) g.2.2.2.2.2.1) (hv4 : vp_in (i + (4 : Int32)) g.2.2.2.2.2.1) (hce : ce ≤ 600000) (hsl : sl ≤ 7302250) (hx : h[0]? = some (.inr (.inr (11, fs)))) (hm : h1[61]? = some (.inr (.inr (12, fs2)))) (e1 : FX11_undo 0  h = some (v, h1)) (e2 : FX12_undo 61  h1 = some (v, h2)) (kk : qV l g mL_law 2048 0 600000 7302250 ce sl qZl 1098 [(0, .ref 1000300), (1, .ref 0), (2, .ref 61), (3, .int i)] [] h2) : qV l g mL_law 2048 0 600000 7302250 ce sl qZl 263 [(0, .ref 1000300), (1, .ref 0), (2, .ref 61), (3, .int i)] [] h := by
  refine q_aload_n dL_law_263 rfl ?_
  refine q_virt (as := []) (rest := []) dL_law_264 vL_27 hx (CX11_undo _ h v h1 e1) (Nat.le_of_ble_eq_true rfl) ⟨hce, hsl⟩ (fun w y hy _ => ?_)
  rw [hy.1, hy.2]
  show qV l g mL_law 2048 0 600000 7302250 ce sl qZl 267 [(0, .ref 1000300), (1, .ref 0), (2, .ref 61), (3, .int i)] [.int v] h1
  refine q_aload_n dL_law_267 rfl ?_
  refine q_virt (as := []) (rest := [.int v]) dL_law_268 vL_31 hm (CX12_undo _ h1 v h2 e2) (Nat.le_of_ble_eq_true rfl) ⟨hce, hsl⟩ (fun w y hy _ => ?_)
  rw [hy.1, hy.2]
  show qV l g mL_law 2048 0 600000 7302250 ce sl qZl 271 [(0, .ref 1000300), (1, .ref 0), (2, .ref 61), (3, .int i)] [.int v, .int v] h2
  exact q_icmp_eq (tgt := 1098) dL_law_271 (by decide) (fun _ => kk) (fun q => absurd rfl q)
set_option maxRecDepth 100000 in
set_option maxHeartbeats 4000000 in
theorem law_c4 {l : Launch} {g : qG} {ce sl : Nat} {i : Int32} {h h1 h2 : qH} {v : Int32} {fs fs2 : List Value} (hv1 : vp_in (i + (1 : Int32)) g.2.2.2.2.2.1) (hv2 : vp_in (i + (2 : Int32)) g.2.2.2.2.2.1) (hv3 : vp_in (i + (3 : Int32)) g.2.2.2.2.2.1) (hv4 : vp_in (i + (4 : Int32)) g.2.2.2.2.2.1) (hce : ce ≤ 600000) (hsl : sl ≤ 7302250) (hx : h[0]? = some (.inr (.inr (11, fs)))) (hm : h1[61]? = some (.inr (.inr (12, fs2)))) (e1 : FX11_nettles 0 (lx g (i + (1 : Int32))) h = some (v, h1)) (e2 : FX12_nettles 61 (lx g (i + (1 : Int32))) h1 = some (v, h2)) (kk : qV l g mL_law 2048 0 600000 7302250 ce sl qZl 1098 [(0, .ref 1000300), (1, .ref 0), (2, .ref 61), (3, .int i)] [] h2) : qV l g mL_law 2048 0 600000 7302250 ce sl qZl 276 [(0, .ref 1000300), (1, .ref 0), (2, .ref 61), (3, .int i)] [] h := by
  refine q_aload_n dL_law_276 rfl ?_
  refine q_aload_n dL_law_277 rfl ?_
  refine q_iload_n dL_law_278 rfl ?_
  refine q_iconst (v := 1) dL_law_279 (by decide) ?_
  refine q_iadd dL_law_280 ?_
  refine q_sld dL_law_281 hv1 ?_
  refine q_virt (as := [.int (lx g (i + (1 : Int32)))]) (rest := []) dL_law_282 vL_32 hx (CX11_nettles _ _ h v h1 e1) (Nat.le_of_ble_eq_true rfl) ⟨hce, hsl⟩ (fun w y hy _ => ?_)
  rw [hy.1, hy.2]
  show qV l g mL_law 2048 0 600000 7302250 ce sl qZl 285 [(0, .ref 1000300), (1, .ref 0), (2, .ref 61), (3, .int i)] [.int v] h1
  refine q_aload_n dL_law_285 rfl ?_
  refine q_aload_n dL_law_286 rfl ?_
  refine q_iload_n dL_law_287 rfl ?_
  refine q_iconst (v := 1) dL_law_288 (by decide) ?_
  refine q_iadd dL_law_289 ?_
  refine q_sld dL_law_290 hv1 ?_
  refine q_virt (as := [.int (lx g (i + (1 : Int32)))]) (rest := [.int v]) dL_law_291 vL_35 hm (CX12_nettles _ _ h1 v h2 e2) (Nat.le_of_ble_eq_true rfl) ⟨hce, hsl⟩ (fun w y hy _ => ?_)
  rw [hy.1, hy.2]
  show qV l g mL_law 2048 0 600000 7302250 ce sl qZl 294 [(0, .ref 1000300), (1, .ref 0), (2, .ref 61), (3, .int i)] [.int v, .int v] h2
  exact q_icmp_eq (tgt := 1098) dL_law_294 (by decide) (fun _ => kk) (fun q => absurd rfl q)
set_option maxRecDepth 100000 in
set_option maxHeartbeats 4000000 in
theorem law_c5 {l : Launch} {g : qG} {ce sl : Nat} {i : Int32} {h h1 h2 : qH} {v : Int32} {fs fs2 : List Value} (hv1 : vp_in (i + (1 : Int32)) g.2.2.2.2.2.1) (hv2 : vp_in (i + (2 : Int32)) g.2.2.2.2.2.1) (hv3 : vp_in (i + (3 : Int32)) g.2.2.2.2.2.1) (hv4 : vp_in (i + (4 : Int32)) g.2.2.2.2.2.1) (hce : ce ≤ 600000) (hsl : sl ≤ 7302250) (hx : h[0]? = some (.inr (.inr (11, fs)))) (hm : h1[61]? = some (.inr (.inr (12, fs2)))) (e1 : FX11_sewn 0 (lx g (i + (1 : Int32))) h = some (v, h1)) (e2 : FX12_sewn 61 (lx g (i + (1 : Int32))) h1 = some (v, h2)) (kk : qV l g mL_law 2048 0 600000 7302250 ce sl qZl 1098 [(0, .ref 1000300), (1, .ref 0), (2, .ref 61), (3, .int i)] [] h2) : qV l g mL_law 2048 0 600000 7302250 ce sl qZl 299 [(0, .ref 1000300), (1, .ref 0), (2, .ref 61), (3, .int i)] [] h := by
  refine q_aload_n dL_law_299 rfl ?_
  refine q_aload_n dL_law_300 rfl ?_
  refine q_iload_n dL_law_301 rfl ?_
  refine q_iconst (v := 1) dL_law_302 (by decide) ?_
  refine q_iadd dL_law_303 ?_
  refine q_sld dL_law_304 hv1 ?_
  refine q_virt (as := [.int (lx g (i + (1 : Int32)))]) (rest := []) dL_law_305 vL_36 hx (CX11_sewn _ _ h v h1 e1) (Nat.le_of_ble_eq_true rfl) ⟨hce, hsl⟩ (fun w y hy _ => ?_)
  rw [hy.1, hy.2]
  show qV l g mL_law 2048 0 600000 7302250 ce sl qZl 308 [(0, .ref 1000300), (1, .ref 0), (2, .ref 61), (3, .int i)] [.int v] h1
  refine q_aload_n dL_law_308 rfl ?_
  refine q_aload_n dL_law_309 rfl ?_
  refine q_iload_n dL_law_310 rfl ?_
  refine q_iconst (v := 1) dL_law_311 (by decide) ?_
  refine q_iadd dL_law_312 ?_
  refine q_sld dL_law_313 hv1 ?_
  refine q_virt (as := [.int (lx g (i + (1 : Int32)))]) (rest := [.int v]) dL_law_314 vL_39 hm (CX12_sewn _ _ h1 v h2 e2) (Nat.le_of_ble_eq_true rfl) ⟨hce, hsl⟩ (fun w y hy _ => ?_)
  rw [hy.1, hy.2]
  show qV l g mL_law 2048 0 600000 7302250 ce sl qZl 317 [(0, .ref 1000300), (1, .ref 0), (2, .ref 61), (3, .int i)] [.int v, .int v] h2
  exact q_icmp_eq (tgt := 1098) dL_law_317 (by decide) (fun _ => kk) (fun q => absurd rfl q)
set_option maxRecDepth 100000 in
set_option maxHeartbeats 4000000 in
theorem law_c6 {l : Launch} {g : qG} {ce sl : Nat} {i : Int32} {h h1 h2 : qH} {v : Int32} {fs fs2 : List Value} (hv1 : vp_in (i + (1 : Int32)) g.2.2.2.2.2.1) (hv2 : vp_in (i + (2 : Int32)) g.2.2.2.2.2.1) (hv3 : vp_in (i + (3 : Int32)) g.2.2.2.2.2.1) (hv4 : vp_in (i + (4 : Int32)) g.2.2.2.2.2.1) (hce : ce ≤ 600000) (hsl : sl ≤ 7302250) (hx : h[0]? = some (.inr (.inr (11, fs)))) (hm : h1[61]? = some (.inr (.inr (12, fs2)))) (e1 : FX11_has 0 (lx g (i + (1 : Int32))) h = some (v, h1)) (e2 : FX12_has 61 (lx g (i + (1 : Int32))) h1 = some (v, h2)) (kk : qV l g mL_law 2048 0 600000 7302250 ce sl qZl 1098 [(0, .ref 1000300), (1, .ref 0), (2, .ref 61), (3, .int i)] [] h2) : qV l g mL_law 2048 0 600000 7302250 ce sl qZl 322 [(0, .ref 1000300), (1, .ref 0), (2, .ref 61), (3, .int i)] [] h := by
  refine q_aload_n dL_law_322 rfl ?_
  refine q_aload_n dL_law_323 rfl ?_
  refine q_iload_n dL_law_324 rfl ?_
  refine q_iconst (v := 1) dL_law_325 (by decide) ?_
  refine q_iadd dL_law_326 ?_
  refine q_sld dL_law_327 hv1 ?_
  refine q_virt (as := [.int (lx g (i + (1 : Int32)))]) (rest := []) dL_law_328 vL_40 hx (CX11_has _ _ h v h1 e1) (Nat.le_of_ble_eq_true rfl) ⟨hce, hsl⟩ (fun w y hy _ => ?_)
  rw [hy.1, hy.2]
  show qV l g mL_law 2048 0 600000 7302250 ce sl qZl 331 [(0, .ref 1000300), (1, .ref 0), (2, .ref 61), (3, .int i)] [.int v] h1
  refine q_aload_n dL_law_331 rfl ?_
  refine q_aload_n dL_law_332 rfl ?_
  refine q_iload_n dL_law_333 rfl ?_
  refine q_iconst (v := 1) dL_law_334 (by decide) ?_
  refine q_iadd dL_law_335 ?_
  refine q_sld dL_law_336 hv1 ?_
  refine q_virt (as := [.int (lx g (i + (1 : Int32)))]) (rest := [.int v]) dL_law_337 vL_43 hm (CX12_has _ _ h1 v h2 e2) (Nat.le_of_ble_eq_true rfl) ⟨hce, hsl⟩ (fun w y hy _ => ?_)
  rw [hy.1, hy.2]
  show qV l g mL_law 2048 0 600000 7302250 ce sl qZl 340 [(0, .ref 1000300), (1, .ref 0), (2, .ref 61), (3, .int i)] [.int v, .int v] h2
  exact q_icmp_eq (tgt := 1098) dL_law_340 (by decide) (fun _ => kk) (fun q => absurd rfl q)
set_option maxRecDepth 100000 in
set_option maxHeartbeats 4000000 in
theorem law_c7 {l : Launch} {g : qG} {ce sl : Nat} {i : Int32} {h h1 h2 : qH} {v : Int32} {fs fs2 : List Value} (hv1 : vp_in (i + (1 : Int32)) g.2.2.2.2.2.1) (hv2 : vp_in (i + (2 : Int32)) g.2.2.2.2.2.1) (hv3 : vp_in (i + (3 : Int32)) g.2.2.2.2.2.1) (hv4 : vp_in (i + (4 : Int32)) g.2.2.2.2.2.1) (hce : ce ≤ 600000) (hsl : sl ≤ 7302250) (hx : h[0]? = some (.inr (.inr (11, fs)))) (hm : h1[61]? = some (.inr (.inr (12, fs2)))) (e1 : FX11_plan 0 (lx g (i + (1 : Int32))) (lx g (i + (2 : Int32))) h = some (v, h1)) (e2 : FX12_plan 61 (lx g (i + (1 : Int32))) (lx g (i + (2 : Int32))) h1 = some (v, h2)) (kk : qV l g mL_law 2048 0 600000 7302250 ce sl qZl 1098 [(0, .ref 1000300), (1, .ref 0), (2, .ref 61), (3, .int i)] [] h2) : qV l g mL_law 2048 0 600000 7302250 ce sl qZl 345 [(0, .ref 1000300), (1, .ref 0), (2, .ref 61), (3, .int i)] [] h := by
  refine q_aload_n dL_law_345 rfl ?_
  refine q_aload_n dL_law_346 rfl ?_
  refine q_iload_n dL_law_347 rfl ?_
  refine q_iconst (v := 1) dL_law_348 (by decide) ?_
  refine q_iadd dL_law_349 ?_
  refine q_sld dL_law_350 hv1 ?_
  refine q_aload_n dL_law_351 rfl ?_
  refine q_iload_n dL_law_352 rfl ?_
  refine q_iconst (v := 2) dL_law_353 (by decide) ?_
  refine q_iadd dL_law_354 ?_
  refine q_sld dL_law_355 hv2 ?_
  refine q_virt (as := [.int (lx g (i + (1 : Int32))), .int (lx g (i + (2 : Int32)))]) (rest := []) dL_law_356 vL_44 hx (CX11_plan _ _ _ h v h1 e1) (Nat.le_of_ble_eq_true rfl) ⟨hce, hsl⟩ (fun w y hy _ => ?_)
  rw [hy.1, hy.2]
  show qV l g mL_law 2048 0 600000 7302250 ce sl qZl 359 [(0, .ref 1000300), (1, .ref 0), (2, .ref 61), (3, .int i)] [.int v] h1
  refine q_aload_n dL_law_359 rfl ?_
  refine q_aload_n dL_law_360 rfl ?_
  refine q_iload_n dL_law_361 rfl ?_
  refine q_iconst (v := 1) dL_law_362 (by decide) ?_
  refine q_iadd dL_law_363 ?_
  refine q_sld dL_law_364 hv1 ?_
  refine q_aload_n dL_law_365 rfl ?_
  refine q_iload_n dL_law_366 rfl ?_
  refine q_iconst (v := 2) dL_law_367 (by decide) ?_
  refine q_iadd dL_law_368 ?_
  refine q_sld dL_law_369 hv2 ?_
  refine q_virt (as := [.int (lx g (i + (1 : Int32))), .int (lx g (i + (2 : Int32)))]) (rest := [.int v]) dL_law_370 vL_47 hm (CX12_plan _ _ _ h1 v h2 e2) (Nat.le_of_ble_eq_true rfl) ⟨hce, hsl⟩ (fun w y hy _ => ?_)
  rw [hy.1, hy.2]
  show qV l g mL_law 2048 0 600000 7302250 ce sl qZl 373 [(0, .ref 1000300), (1, .ref 0), (2, .ref 61), (3, .int i)] [.int v, .int v] h2
  exact q_icmp_eq (tgt := 1098) dL_law_373 (by decide) (fun _ => kk) (fun q => absurd rfl q)
set_option maxRecDepth 100000 in
set_option maxHeartbeats 4000000 in
theorem law_c8 {l : Launch} {g : qG} {ce sl : Nat} {i : Int32} {h h1 h2 : qH} {v : Int32} {fs fs2 : List Value} (hv1 : vp_in (i + (1 : Int32)) g.2.2.2.2.2.1) (hv2 : vp_in (i + (2 : Int32)) g.2.2.2.2.2.1) (hv3 : vp_in (i + (3 : Int32)) g.2.2.2.2.2.1) (hv4 : vp_in (i + (4 : Int32)) g.2.2.2.2.2.1) (hce : ce ≤ 600000) (hsl : sl ≤ 7302250) (hx : h[0]? = some (.inr (.inr (11, fs)))) (hm : h1[61]? = some (.inr (.inr (12, fs2)))) (e1 : FX11_inTime 0 (lx g (i + (1 : Int32))) (lx g (i + (2 : Int32))) (lx g (i + (3 : Int32))) h = some (v, h1)) (e2 : FX12_inTime 61 (lx g (i + (1 : Int32))) (lx g (i + (2 : Int32))) (lx g (i + (3 : Int32))) h1 = some (v, h2)) (kk : qV l g mL_law 2048 0 600000 7302250 ce sl qZl 1098 [(0, .ref 1000300), (1, .ref 0), (2, .ref 61), (3, .int i)] [] h2) : qV l g mL_law 2048 0 600000 7302250 ce sl qZl 378 [(0, .ref 1000300), (1, .ref 0), (2, .ref 61), (3, .int i)] [] h := by
  refine q_aload_n dL_law_378 rfl ?_
  refine q_aload_n dL_law_379 rfl ?_
  refine q_iload_n dL_law_380 rfl ?_
  refine q_iconst (v := 1) dL_law_381 (by decide) ?_
  refine q_iadd dL_law_382 ?_
  refine q_sld dL_law_383 hv1 ?_
  refine q_aload_n dL_law_384 rfl ?_
  refine q_iload_n dL_law_385 rfl ?_
  refine q_iconst (v := 2) dL_law_386 (by decide) ?_
  refine q_iadd dL_law_387 ?_
  refine q_sld dL_law_388 hv2 ?_
  refine q_aload_n dL_law_389 rfl ?_
  refine q_iload_n dL_law_390 rfl ?_
  refine q_iconst (v := 3) dL_law_391 (by decide) ?_
  refine q_iadd dL_law_392 ?_
  refine q_sld dL_law_393 hv3 ?_
  refine q_virt (as := [.int (lx g (i + (1 : Int32))), .int (lx g (i + (2 : Int32))), .int (lx g (i + (3 : Int32)))]) (rest := []) dL_law_394 vL_48 hx (CX11_inTime _ _ _ _ h v h1 e1) (Nat.le_of_ble_eq_true rfl) ⟨hce, hsl⟩ (fun w y hy _ => ?_)
  rw [hy.1, hy.2]
  show qV l g mL_law 2048 0 600000 7302250 ce sl qZl 397 [(0, .ref 1000300), (1, .ref 0), (2, .ref 61), (3, .int i)] [.int v] h1
  refine q_aload_n dL_law_397 rfl ?_
  refine q_aload_n dL_law_398 rfl ?_
  refine q_iload_n dL_law_399 rfl ?_
  refine q_iconst (v := 1) dL_law_400 (by decide) ?_
  refine q_iadd dL_law_401 ?_
  refine q_sld dL_law_402 hv1 ?_
  refine q_aload_n dL_law_403 rfl ?_
  refine q_iload_n dL_law_404 rfl ?_
  refine q_iconst (v := 2) dL_law_405 (by decide) ?_
  refine q_iadd dL_law_406 ?_
  refine q_sld dL_law_407 hv2 ?_
  refine q_aload_n dL_law_408 rfl ?_
  refine q_iload_n dL_law_409 rfl ?_
  refine q_iconst (v := 3) dL_law_410 (by decide) ?_
  refine q_iadd dL_law_411 ?_
  refine q_sld dL_law_412 hv3 ?_
  refine q_virt (as := [.int (lx g (i + (1 : Int32))), .int (lx g (i + (2 : Int32))), .int (lx g (i + (3 : Int32)))]) (rest := [.int v]) dL_law_413 vL_52 hm (CX12_inTime _ _ _ _ h1 v h2 e2) (Nat.le_of_ble_eq_true rfl) ⟨hce, hsl⟩ (fun w y hy _ => ?_)
  rw [hy.1, hy.2]
  show qV l g mL_law 2048 0 600000 7302250 ce sl qZl 416 [(0, .ref 1000300), (1, .ref 0), (2, .ref 61), (3, .int i)] [.int v, .int v] h2
  exact q_icmp_eq (tgt := 1098) dL_law_416 (by decide) (fun _ => kk) (fun q => absurd rfl q)
set_option maxRecDepth 100000 in
set_option maxHeartbeats 4000000 in
theorem law_c9 {l : Launch} {g : qG} {ce sl : Nat} {i : Int32} {h h1 h2 : qH} {v : Int32} {fs fs2 : List Value} (hv1 : vp_in (i + (1 : Int32)) g.2.2.2.2.2.1) (hv2 : vp_in (i + (2 : Int32)) g.2.2.2.2.2.1) (hv3 : vp_in (i + (3 : Int32)) g.2.2.2.2.2.1) (hv4 : vp_in (i + (4 : Int32)) g.2.2.2.2.2.1) (hce : ce ≤ 600000) (hsl : sl ≤ 7302250) (hx : h[0]? = some (.inr (.inr (11, fs)))) (hm : h1[61]? = some (.inr (.inr (12, fs2)))) (e1 : FX11_fewest 0 (lx g (i + (1 : Int32))) h = some (v, h1)) (e2 : FX12_fewest 61 (lx g (i + (1 : Int32))) h1 = some (v, h2)) (kk : qV l g mL_law 2048 0 600000 7302250 ce sl qZl 1098 [(0, .ref 1000300), (1, .ref 0), (2, .ref 61), (3, .int i)] [] h2) : qV l g mL_law 2048 0 600000 7302250 ce sl qZl 421 [(0, .ref 1000300), (1, .ref 0), (2, .ref 61), (3, .int i)] [] h := by
  refine q_aload_n dL_law_421 rfl ?_
  refine q_aload_n dL_law_422 rfl ?_
  refine q_iload_n dL_law_423 rfl ?_
  refine q_iconst (v := 1) dL_law_424 (by decide) ?_
  refine q_iadd dL_law_425 ?_
  refine q_sld dL_law_426 hv1 ?_
  refine q_virt (as := [.int (lx g (i + (1 : Int32)))]) (rest := []) dL_law_427 vL_53 hx (CX11_fewest _ _ h v h1 e1) (Nat.le_of_ble_eq_true rfl) ⟨hce, hsl⟩ (fun w y hy _ => ?_)
  rw [hy.1, hy.2]
  show qV l g mL_law 2048 0 600000 7302250 ce sl qZl 430 [(0, .ref 1000300), (1, .ref 0), (2, .ref 61), (3, .int i)] [.int v] h1
  refine q_aload_n dL_law_430 rfl ?_
  refine q_aload_n dL_law_431 rfl ?_
  refine q_iload_n dL_law_432 rfl ?_
  refine q_iconst (v := 1) dL_law_433 (by decide) ?_
  refine q_iadd dL_law_434 ?_
  refine q_sld dL_law_435 hv1 ?_
  refine q_virt (as := [.int (lx g (i + (1 : Int32)))]) (rest := [.int v]) dL_law_436 vL_56 hm (CX12_fewest _ _ h1 v h2 e2) (Nat.le_of_ble_eq_true rfl) ⟨hce, hsl⟩ (fun w y hy _ => ?_)
  rw [hy.1, hy.2]
  show qV l g mL_law 2048 0 600000 7302250 ce sl qZl 439 [(0, .ref 1000300), (1, .ref 0), (2, .ref 61), (3, .int i)] [.int v, .int v] h2
  exact q_icmp_eq (tgt := 1098) dL_law_439 (by decide) (fun _ => kk) (fun q => absurd rfl q)
set_option maxRecDepth 100000 in
set_option maxHeartbeats 4000000 in
theorem law_c10 {l : Launch} {g : qG} {ce sl : Nat} {i : Int32} {h h1 h2 : qH} {v : Int32} {fs fs2 : List Value} (hv1 : vp_in (i + (1 : Int32)) g.2.2.2.2.2.1) (hv2 : vp_in (i + (2 : Int32)) g.2.2.2.2.2.1) (hv3 : vp_in (i + (3 : Int32)) g.2.2.2.2.2.1) (hv4 : vp_in (i + (4 : Int32)) g.2.2.2.2.2.1) (hce : ce ≤ 600000) (hsl : sl ≤ 7302250) (hx : h[0]? = some (.inr (.inr (11, fs)))) (hm : h1[61]? = some (.inr (.inr (12, fs2)))) (e1 : FX11_left 0 (lx g (i + (1 : Int32))) (lx g (i + (2 : Int32))) h = some (v, h1)) (e2 : FX12_left 61 (lx g (i + (1 : Int32))) (lx g (i + (2 : Int32))) h1 = some (v, h2)) (kk : qV l g mL_law 2048 0 600000 7302250 ce sl qZl 1098 [(0, .ref 1000300), (1, .ref 0), (2, .ref 61), (3, .int i)] [] h2) : qV l g mL_law 2048 0 600000 7302250 ce sl qZl 444 [(0, .ref 1000300), (1, .ref 0), (2, .ref 61), (3, .int i)] [] h := by
  refine q_aload_n dL_law_444 rfl ?_
  refine q_aload_n dL_law_445 rfl ?_
  refine q_iload_n dL_law_446 rfl ?_
  refine q_iconst (v := 1) dL_law_447 (by decide) ?_
  refine q_iadd dL_law_448 ?_
  refine q_sld dL_law_449 hv1 ?_
  refine q_aload_n dL_law_450 rfl ?_
  refine q_iload_n dL_law_451 rfl ?_
  refine q_iconst (v := 2) dL_law_452 (by decide) ?_
  refine q_iadd dL_law_453 ?_
  refine q_sld dL_law_454 hv2 ?_
  refine q_virt (as := [.int (lx g (i + (1 : Int32))), .int (lx g (i + (2 : Int32)))]) (rest := []) dL_law_455 vL_57 hx (CX11_left _ _ _ h v h1 e1) (Nat.le_of_ble_eq_true rfl) ⟨hce, hsl⟩ (fun w y hy _ => ?_)
  rw [hy.1, hy.2]
  show qV l g mL_law 2048 0 600000 7302250 ce sl qZl 458 [(0, .ref 1000300), (1, .ref 0), (2, .ref 61), (3, .int i)] [.int v] h1
  refine q_aload_n dL_law_458 rfl ?_
  refine q_aload_n dL_law_459 rfl ?_
  refine q_iload_n dL_law_460 rfl ?_
  refine q_iconst (v := 1) dL_law_461 (by decide) ?_
  refine q_iadd dL_law_462 ?_
  refine q_sld dL_law_463 hv1 ?_
  refine q_aload_n dL_law_464 rfl ?_
  refine q_iload_n dL_law_465 rfl ?_
  refine q_iconst (v := 2) dL_law_466 (by decide) ?_
  refine q_iadd dL_law_467 ?_
  refine q_sld dL_law_468 hv2 ?_
  refine q_virt (as := [.int (lx g (i + (1 : Int32))), .int (lx g (i + (2 : Int32)))]) (rest := [.int v]) dL_law_469 vL_60 hm (CX12_left _ _ _ h1 v h2 e2) (Nat.le_of_ble_eq_true rfl) ⟨hce, hsl⟩ (fun w y hy _ => ?_)
  rw [hy.1, hy.2]
  show qV l g mL_law 2048 0 600000 7302250 ce sl qZl 472 [(0, .ref 1000300), (1, .ref 0), (2, .ref 61), (3, .int i)] [.int v, .int v] h2
  exact q_icmp_eq (tgt := 1098) dL_law_472 (by decide) (fun _ => kk) (fun q => absurd rfl q)
set_option maxRecDepth 100000 in
set_option maxHeartbeats 4000000 in
theorem law_c11 {l : Launch} {g : qG} {ce sl : Nat} {i : Int32} {h h1 h2 : qH} {v : Int32} {fs fs2 : List Value} (hv1 : vp_in (i + (1 : Int32)) g.2.2.2.2.2.1) (hv2 : vp_in (i + (2 : Int32)) g.2.2.2.2.2.1) (hv3 : vp_in (i + (3 : Int32)) g.2.2.2.2.2.1) (hv4 : vp_in (i + (4 : Int32)) g.2.2.2.2.2.1) (hce : ce ≤ 600000) (hsl : sl ≤ 7302250) (hx : h[0]? = some (.inr (.inr (11, fs)))) (hm : h1[61]? = some (.inr (.inr (12, fs2)))) (e1 : FX11_stings 0 (lx g (i + (1 : Int32))) (lx g (i + (2 : Int32))) (lx g (i + (3 : Int32))) h = some (v, h1)) (e2 : FX12_stings 61 (lx g (i + (1 : Int32))) (lx g (i + (2 : Int32))) (lx g (i + (3 : Int32))) h1 = some (v, h2)) (kk : qV l g mL_law 2048 0 600000 7302250 ce sl qZl 1098 [(0, .ref 1000300), (1, .ref 0), (2, .ref 61), (3, .int i)] [] h2) : qV l g mL_law 2048 0 600000 7302250 ce sl qZl 477 [(0, .ref 1000300), (1, .ref 0), (2, .ref 61), (3, .int i)] [] h := by
  refine q_aload_n dL_law_477 rfl ?_
  refine q_aload_n dL_law_478 rfl ?_
  refine q_iload_n dL_law_479 rfl ?_
  refine q_iconst (v := 1) dL_law_480 (by decide) ?_
  refine q_iadd dL_law_481 ?_
  refine q_sld dL_law_482 hv1 ?_
  refine q_aload_n dL_law_483 rfl ?_
  refine q_iload_n dL_law_484 rfl ?_
  refine q_iconst (v := 2) dL_law_485 (by decide) ?_
  refine q_iadd dL_law_486 ?_
  refine q_sld dL_law_487 hv2 ?_
  refine q_aload_n dL_law_488 rfl ?_
  refine q_iload_n dL_law_489 rfl ?_
  refine q_iconst (v := 3) dL_law_490 (by decide) ?_
  refine q_iadd dL_law_491 ?_
  refine q_sld dL_law_492 hv3 ?_
  refine q_virt (as := [.int (lx g (i + (1 : Int32))), .int (lx g (i + (2 : Int32))), .int (lx g (i + (3 : Int32)))]) (rest := []) dL_law_493 vL_61 hx (CX11_stings _ _ _ _ h v h1 e1) (Nat.le_of_ble_eq_true rfl) ⟨hce, hsl⟩ (fun w y hy _ => ?_)
  rw [hy.1, hy.2]
  show qV l g mL_law 2048 0 600000 7302250 ce sl qZl 496 [(0, .ref 1000300), (1, .ref 0), (2, .ref 61), (3, .int i)] [.int v] h1
  refine q_aload_n dL_law_496 rfl ?_
  refine q_aload_n dL_law_497 rfl ?_
  refine q_iload_n dL_law_498 rfl ?_
  refine q_iconst (v := 1) dL_law_499 (by decide) ?_
  refine q_iadd dL_law_500 ?_
  refine q_sld dL_law_501 hv1 ?_
  refine q_aload_n dL_law_502 rfl ?_
  refine q_iload_n dL_law_503 rfl ?_
  refine q_iconst (v := 2) dL_law_504 (by decide) ?_
  refine q_iadd dL_law_505 ?_
  refine q_sld dL_law_506 hv2 ?_
  refine q_aload_n dL_law_507 rfl ?_
  refine q_iload_n dL_law_508 rfl ?_
  refine q_iconst (v := 3) dL_law_509 (by decide) ?_
  refine q_iadd dL_law_510 ?_
  refine q_sld dL_law_511 hv3 ?_
  refine q_virt (as := [.int (lx g (i + (1 : Int32))), .int (lx g (i + (2 : Int32))), .int (lx g (i + (3 : Int32)))]) (rest := [.int v]) dL_law_512 vL_64 hm (CX12_stings _ _ _ _ h1 v h2 e2) (Nat.le_of_ble_eq_true rfl) ⟨hce, hsl⟩ (fun w y hy _ => ?_)
  rw [hy.1, hy.2]
  show qV l g mL_law 2048 0 600000 7302250 ce sl qZl 515 [(0, .ref 1000300), (1, .ref 0), (2, .ref 61), (3, .int i)] [.int v, .int v] h2
  exact q_icmp_eq (tgt := 1098) dL_law_515 (by decide) (fun _ => kk) (fun q => absurd rfl q)
set_option maxRecDepth 100000 in
set_option maxHeartbeats 4000000 in
theorem law_c12 {l : Launch} {g : qG} {ce sl : Nat} {i : Int32} {h h1 h2 : qH} {v : Int32} {fs fs2 : List Value} (hv1 : vp_in (i + (1 : Int32)) g.2.2.2.2.2.1) (hv2 : vp_in (i + (2 : Int32)) g.2.2.2.2.2.1) (hv3 : vp_in (i + (3 : Int32)) g.2.2.2.2.2.1) (hv4 : vp_in (i + (4 : Int32)) g.2.2.2.2.2.1) (hce : ce ≤ 600000) (hsl : sl ≤ 7302250) (hx : h[0]? = some (.inr (.inr (11, fs)))) (hm : h1[61]? = some (.inr (.inr (12, fs2)))) (e1 : FX11_surest 0 (lx g (i + (1 : Int32))) (lx g (i + (2 : Int32))) (lx g (i + (3 : Int32))) (lx g (i + (4 : Int32))) h = some (v, h1)) (e2 : FX12_surest 61 (lx g (i + (1 : Int32))) (lx g (i + (2 : Int32))) (lx g (i + (3 : Int32))) (lx g (i + (4 : Int32))) h1 = some (v, h2)) (kk : qV l g mL_law 2048 0 600000 7302250 ce sl qZl 1098 [(0, .ref 1000300), (1, .ref 0), (2, .ref 61), (3, .int i)] [] h2) : qV l g mL_law 2048 0 600000 7302250 ce sl qZl 520 [(0, .ref 1000300), (1, .ref 0), (2, .ref 61), (3, .int i)] [] h := by
  refine q_aload_n dL_law_520 rfl ?_
  refine q_aload_n dL_law_521 rfl ?_
  refine q_iload_n dL_law_522 rfl ?_
  refine q_iconst (v := 1) dL_law_523 (by decide) ?_
  refine q_iadd dL_law_524 ?_
  refine q_sld dL_law_525 hv1 ?_
  refine q_aload_n dL_law_526 rfl ?_
  refine q_iload_n dL_law_527 rfl ?_
  refine q_iconst (v := 2) dL_law_528 (by decide) ?_
  refine q_iadd dL_law_529 ?_
  refine q_sld dL_law_530 hv2 ?_
  refine q_aload_n dL_law_531 rfl ?_
  refine q_iload_n dL_law_532 rfl ?_
  refine q_iconst (v := 3) dL_law_533 (by decide) ?_
  refine q_iadd dL_law_534 ?_
  refine q_sld dL_law_535 hv3 ?_
  refine q_aload_n dL_law_536 rfl ?_
  refine q_iload_n dL_law_537 rfl ?_
  refine q_iconst (v := 4) dL_law_538 (by decide) ?_
  refine q_iadd dL_law_539 ?_
  refine q_sld dL_law_540 hv4 ?_
  refine q_virt (as := [.int (lx g (i + (1 : Int32))), .int (lx g (i + (2 : Int32))), .int (lx g (i + (3 : Int32))), .int (lx g (i + (4 : Int32)))]) (rest := []) dL_law_541 vL_65 hx (CX11_surest _ _ _ _ _ h v h1 e1) (Nat.le_of_ble_eq_true rfl) ⟨hce, hsl⟩ (fun w y hy _ => ?_)
  rw [hy.1, hy.2]
  show qV l g mL_law 2048 0 600000 7302250 ce sl qZl 544 [(0, .ref 1000300), (1, .ref 0), (2, .ref 61), (3, .int i)] [.int v] h1
  refine q_aload_n dL_law_544 rfl ?_
  refine q_aload_n dL_law_545 rfl ?_
  refine q_iload_n dL_law_546 rfl ?_
  refine q_iconst (v := 1) dL_law_547 (by decide) ?_
  refine q_iadd dL_law_548 ?_
  refine q_sld dL_law_549 hv1 ?_
  refine q_aload_n dL_law_550 rfl ?_
  refine q_iload_n dL_law_551 rfl ?_
  refine q_iconst (v := 2) dL_law_552 (by decide) ?_
  refine q_iadd dL_law_553 ?_
  refine q_sld dL_law_554 hv2 ?_
  refine q_aload_n dL_law_555 rfl ?_
  refine q_iload_n dL_law_556 rfl ?_
  refine q_iconst (v := 3) dL_law_557 (by decide) ?_
  refine q_iadd dL_law_558 ?_
  refine q_sld dL_law_559 hv3 ?_
  refine q_aload_n dL_law_560 rfl ?_
  refine q_iload_n dL_law_561 rfl ?_
  refine q_iconst (v := 4) dL_law_562 (by decide) ?_
  refine q_iadd dL_law_563 ?_
  refine q_sld dL_law_564 hv4 ?_
  refine q_virt (as := [.int (lx g (i + (1 : Int32))), .int (lx g (i + (2 : Int32))), .int (lx g (i + (3 : Int32))), .int (lx g (i + (4 : Int32)))]) (rest := [.int v]) dL_law_565 vL_69 hm (CX12_surest _ _ _ _ _ h1 v h2 e2) (Nat.le_of_ble_eq_true rfl) ⟨hce, hsl⟩ (fun w y hy _ => ?_)
  rw [hy.1, hy.2]
  show qV l g mL_law 2048 0 600000 7302250 ce sl qZl 568 [(0, .ref 1000300), (1, .ref 0), (2, .ref 61), (3, .int i)] [.int v, .int v] h2
  exact q_icmp_eq (tgt := 1098) dL_law_568 (by decide) (fun _ => kk) (fun q => absurd rfl q)
set_option maxRecDepth 100000 in
set_option maxHeartbeats 4000000 in
theorem law_c13 {l : Launch} {g : qG} {ce sl : Nat} {i : Int32} {h h1 h2 : qH} {v : Int32} {fs fs2 : List Value} (hv1 : vp_in (i + (1 : Int32)) g.2.2.2.2.2.1) (hv2 : vp_in (i + (2 : Int32)) g.2.2.2.2.2.1) (hv3 : vp_in (i + (3 : Int32)) g.2.2.2.2.2.1) (hv4 : vp_in (i + (4 : Int32)) g.2.2.2.2.2.1) (hce : ce ≤ 600000) (hsl : sl ≤ 7302250) (hx : h[0]? = some (.inr (.inr (11, fs)))) (hm : h1[61]? = some (.inr (.inr (12, fs2)))) (e1 : FX11_told 0 (lx g (i + (1 : Int32))) (lx g (i + (2 : Int32))) h = some (v, h1)) (e2 : FX12_told 61 (lx g (i + (1 : Int32))) (lx g (i + (2 : Int32))) h1 = some (v, h2)) (kk : qV l g mL_law 2048 0 600000 7302250 ce sl qZl 1098 [(0, .ref 1000300), (1, .ref 0), (2, .ref 61), (3, .int i)] [] h2) : qV l g mL_law 2048 0 600000 7302250 ce sl qZl 573 [(0, .ref 1000300), (1, .ref 0), (2, .ref 61), (3, .int i)] [] h := by
  refine q_aload_n dL_law_573 rfl ?_
  refine q_aload_n dL_law_574 rfl ?_
  refine q_iload_n dL_law_575 rfl ?_
  refine q_iconst (v := 1) dL_law_576 (by decide) ?_
  refine q_iadd dL_law_577 ?_
  refine q_sld dL_law_578 hv1 ?_
  refine q_aload_n dL_law_579 rfl ?_
  refine q_iload_n dL_law_580 rfl ?_
  refine q_iconst (v := 2) dL_law_581 (by decide) ?_
  refine q_iadd dL_law_582 ?_
  refine q_sld dL_law_583 hv2 ?_
  refine q_virt (as := [.int (lx g (i + (1 : Int32))), .int (lx g (i + (2 : Int32)))]) (rest := []) dL_law_584 vL_70 hx (CX11_told _ _ _ h v h1 e1) (Nat.le_of_ble_eq_true rfl) ⟨hce, hsl⟩ (fun w y hy _ => ?_)
  rw [hy.1, hy.2]
  show qV l g mL_law 2048 0 600000 7302250 ce sl qZl 587 [(0, .ref 1000300), (1, .ref 0), (2, .ref 61), (3, .int i)] [.int v] h1
  refine q_aload_n dL_law_587 rfl ?_
  refine q_aload_n dL_law_588 rfl ?_
  refine q_iload_n dL_law_589 rfl ?_
  refine q_iconst (v := 1) dL_law_590 (by decide) ?_
  refine q_iadd dL_law_591 ?_
  refine q_sld dL_law_592 hv1 ?_
  refine q_aload_n dL_law_593 rfl ?_
  refine q_iload_n dL_law_594 rfl ?_
  refine q_iconst (v := 2) dL_law_595 (by decide) ?_
  refine q_iadd dL_law_596 ?_
  refine q_sld dL_law_597 hv2 ?_
  refine q_virt (as := [.int (lx g (i + (1 : Int32))), .int (lx g (i + (2 : Int32)))]) (rest := [.int v]) dL_law_598 vL_73 hm (CX12_told _ _ _ h1 v h2 e2) (Nat.le_of_ble_eq_true rfl) ⟨hce, hsl⟩ (fun w y hy _ => ?_)
  rw [hy.1, hy.2]
  show qV l g mL_law 2048 0 600000 7302250 ce sl qZl 601 [(0, .ref 1000300), (1, .ref 0), (2, .ref 61), (3, .int i)] [.int v, .int v] h2
  exact q_icmp_eq (tgt := 1098) dL_law_601 (by decide) (fun _ => kk) (fun q => absurd rfl q)
set_option maxRecDepth 100000 in
set_option maxHeartbeats 4000000 in
theorem law_c14 {l : Launch} {g : qG} {ce sl : Nat} {i : Int32} {h h1 h2 : qH} {v : Int32} {fs fs2 : List Value} (hv1 : vp_in (i + (1 : Int32)) g.2.2.2.2.2.1) (hv2 : vp_in (i + (2 : Int32)) g.2.2.2.2.2.1) (hv3 : vp_in (i + (3 : Int32)) g.2.2.2.2.2.1) (hv4 : vp_in (i + (4 : Int32)) g.2.2.2.2.2.1) (hce : ce ≤ 600000) (hsl : sl ≤ 7302250) (hx : h[0]? = some (.inr (.inr (11, fs)))) (hm : h1[61]? = some (.inr (.inr (12, fs2)))) (e1 : FX11_bare 0 (lx g (i + (1 : Int32))) (lx g (i + (2 : Int32))) h = some (v, h1)) (e2 : FX12_bare 61 (lx g (i + (1 : Int32))) (lx g (i + (2 : Int32))) h1 = some (v, h2)) (kk : qV l g mL_law 2048 0 600000 7302250 ce sl qZl 1098 [(0, .ref 1000300), (1, .ref 0), (2, .ref 61), (3, .int i)] [] h2) : qV l g mL_law 2048 0 600000 7302250 ce sl qZl 606 [(0, .ref 1000300), (1, .ref 0), (2, .ref 61), (3, .int i)] [] h := by
  refine q_aload_n dL_law_606 rfl ?_
  refine q_aload_n dL_law_607 rfl ?_
  refine q_iload_n dL_law_608 rfl ?_
  refine q_iconst (v := 1) dL_law_609 (by decide) ?_
  refine q_iadd dL_law_610 ?_
  refine q_sld dL_law_611 hv1 ?_
  refine q_aload_n dL_law_612 rfl ?_
  refine q_iload_n dL_law_613 rfl ?_
  refine q_iconst (v := 2) dL_law_614 (by decide) ?_
  refine q_iadd dL_law_615 ?_
  refine q_sld dL_law_616 hv2 ?_
  refine q_virt (as := [.int (lx g (i + (1 : Int32))), .int (lx g (i + (2 : Int32)))]) (rest := []) dL_law_617 vL_74 hx (CX11_bare _ _ _ h v h1 e1) (Nat.le_of_ble_eq_true rfl) ⟨hce, hsl⟩ (fun w y hy _ => ?_)
  rw [hy.1, hy.2]
  show qV l g mL_law 2048 0 600000 7302250 ce sl qZl 620 [(0, .ref 1000300), (1, .ref 0), (2, .ref 61), (3, .int i)] [.int v] h1
  refine q_aload_n dL_law_620 rfl ?_
  refine q_aload_n dL_law_621 rfl ?_
  refine q_iload_n dL_law_622 rfl ?_
  refine q_iconst (v := 1) dL_law_623 (by decide) ?_
  refine q_iadd dL_law_624 ?_
  refine q_sld dL_law_625 hv1 ?_
  refine q_aload_n dL_law_626 rfl ?_
  refine q_iload_n dL_law_627 rfl ?_
  refine q_iconst (v := 2) dL_law_628 (by decide) ?_
  refine q_iadd dL_law_629 ?_
  refine q_sld dL_law_630 hv2 ?_
  refine q_virt (as := [.int (lx g (i + (1 : Int32))), .int (lx g (i + (2 : Int32)))]) (rest := [.int v]) dL_law_631 vL_77 hm (CX12_bare _ _ _ h1 v h2 e2) (Nat.le_of_ble_eq_true rfl) ⟨hce, hsl⟩ (fun w y hy _ => ?_)
  rw [hy.1, hy.2]
  show qV l g mL_law 2048 0 600000 7302250 ce sl qZl 634 [(0, .ref 1000300), (1, .ref 0), (2, .ref 61), (3, .int i)] [.int v, .int v] h2
  exact q_icmp_eq (tgt := 1098) dL_law_634 (by decide) (fun _ => kk) (fun q => absurd rfl q)
set_option maxRecDepth 100000 in
set_option maxHeartbeats 4000000 in
theorem law_c15 {l : Launch} {g : qG} {ce sl : Nat} {i : Int32} {h h1 h2 : qH} {v : Int32} {fs fs2 : List Value} (hv1 : vp_in (i + (1 : Int32)) g.2.2.2.2.2.1) (hv2 : vp_in (i + (2 : Int32)) g.2.2.2.2.2.1) (hv3 : vp_in (i + (3 : Int32)) g.2.2.2.2.2.1) (hv4 : vp_in (i + (4 : Int32)) g.2.2.2.2.2.1) (hce : ce ≤ 600000) (hsl : sl ≤ 7302250) (hx : h[0]? = some (.inr (.inr (11, fs)))) (hm : h1[61]? = some (.inr (.inr (12, fs2)))) (e1 : FX11_sign 0 (lx g (i + (1 : Int32))) h = some (v, h1)) (e2 : FX12_sign 61 (lx g (i + (1 : Int32))) h1 = some (v, h2)) (kk : qV l g mL_law 2048 0 600000 7302250 ce sl qZl 1098 [(0, .ref 1000300), (1, .ref 0), (2, .ref 61), (3, .int i)] [] h2) : qV l g mL_law 2048 0 600000 7302250 ce sl qZl 639 [(0, .ref 1000300), (1, .ref 0), (2, .ref 61), (3, .int i)] [] h := by
  refine q_aload_n dL_law_639 rfl ?_
  refine q_aload_n dL_law_640 rfl ?_
  refine q_iload_n dL_law_641 rfl ?_
  refine q_iconst (v := 1) dL_law_642 (by decide) ?_
  refine q_iadd dL_law_643 ?_
  refine q_sld dL_law_644 hv1 ?_
  refine q_virt (as := [.int (lx g (i + (1 : Int32)))]) (rest := []) dL_law_645 vL_78 hx (CX11_sign _ _ h v h1 e1) (Nat.le_of_ble_eq_true rfl) ⟨hce, hsl⟩ (fun w y hy _ => ?_)
  rw [hy.1, hy.2]
  show qV l g mL_law 2048 0 600000 7302250 ce sl qZl 648 [(0, .ref 1000300), (1, .ref 0), (2, .ref 61), (3, .int i)] [.int v] h1
  refine q_aload_n dL_law_648 rfl ?_
  refine q_aload_n dL_law_649 rfl ?_
  refine q_iload_n dL_law_650 rfl ?_
  refine q_iconst (v := 1) dL_law_651 (by decide) ?_
  refine q_iadd dL_law_652 ?_
  refine q_sld dL_law_653 hv1 ?_
  refine q_virt (as := [.int (lx g (i + (1 : Int32)))]) (rest := [.int v]) dL_law_654 vL_81 hm (CX12_sign _ _ h1 v h2 e2) (Nat.le_of_ble_eq_true rfl) ⟨hce, hsl⟩ (fun w y hy _ => ?_)
  rw [hy.1, hy.2]
  show qV l g mL_law 2048 0 600000 7302250 ce sl qZl 657 [(0, .ref 1000300), (1, .ref 0), (2, .ref 61), (3, .int i)] [.int v, .int v] h2
  exact q_icmp_eq (tgt := 1098) dL_law_657 (by decide) (fun _ => kk) (fun q => absurd rfl q)
set_option maxRecDepth 100000 in
set_option maxHeartbeats 4000000 in
theorem law_c16 {l : Launch} {g : qG} {ce sl : Nat} {i : Int32} {h h1 h2 : qH} {v : Int32} {fs fs2 : List Value} (hv1 : vp_in (i + (1 : Int32)) g.2.2.2.2.2.1) (hv2 : vp_in (i + (2 : Int32)) g.2.2.2.2.2.1) (hv3 : vp_in (i + (3 : Int32)) g.2.2.2.2.2.1) (hv4 : vp_in (i + (4 : Int32)) g.2.2.2.2.2.1) (hce : ce ≤ 600000) (hsl : sl ≤ 7302250) (hx : h[0]? = some (.inr (.inr (11, fs)))) (hm : h1[61]? = some (.inr (.inr (12, fs2)))) (e1 : FX11_hush 0  h = some (v, h1)) (e2 : FX12_hush 61  h1 = some (v, h2)) (kk : qV l g mL_law 2048 0 600000 7302250 ce sl qZl 1098 [(0, .ref 1000300), (1, .ref 0), (2, .ref 61), (3, .int i)] [] h2) : qV l g mL_law 2048 0 600000 7302250 ce sl qZl 662 [(0, .ref 1000300), (1, .ref 0), (2, .ref 61), (3, .int i)] [] h := by
  refine q_aload_n dL_law_662 rfl ?_
  refine q_virt (as := []) (rest := []) dL_law_663 vL_82 hx (CX11_hush _ h v h1 e1) (Nat.le_of_ble_eq_true rfl) ⟨hce, hsl⟩ (fun w y hy _ => ?_)
  rw [hy.1, hy.2]
  show qV l g mL_law 2048 0 600000 7302250 ce sl qZl 666 [(0, .ref 1000300), (1, .ref 0), (2, .ref 61), (3, .int i)] [.int v] h1
  refine q_aload_n dL_law_666 rfl ?_
  refine q_virt (as := []) (rest := [.int v]) dL_law_667 vL_85 hm (CX12_hush _ h1 v h2 e2) (Nat.le_of_ble_eq_true rfl) ⟨hce, hsl⟩ (fun w y hy _ => ?_)
  rw [hy.1, hy.2]
  show qV l g mL_law 2048 0 600000 7302250 ce sl qZl 670 [(0, .ref 1000300), (1, .ref 0), (2, .ref 61), (3, .int i)] [.int v, .int v] h2
  exact q_icmp_eq (tgt := 1098) dL_law_670 (by decide) (fun _ => kk) (fun q => absurd rfl q)
set_option maxRecDepth 100000 in
set_option maxHeartbeats 4000000 in
theorem law_c17 {l : Launch} {g : qG} {ce sl : Nat} {i : Int32} {h h1 h2 : qH} {v : Int32} {fs fs2 : List Value} (hv1 : vp_in (i + (1 : Int32)) g.2.2.2.2.2.1) (hv2 : vp_in (i + (2 : Int32)) g.2.2.2.2.2.1) (hv3 : vp_in (i + (3 : Int32)) g.2.2.2.2.2.1) (hv4 : vp_in (i + (4 : Int32)) g.2.2.2.2.2.1) (hce : ce ≤ 600000) (hsl : sl ≤ 7302250) (hx : h[0]? = some (.inr (.inr (11, fs)))) (hm : h1[61]? = some (.inr (.inr (12, fs2)))) (e1 : FX11_law 0 (lx g (i + (1 : Int32))) (lx g (i + (2 : Int32))) h = some (v, h1)) (e2 : FX12_law 61 (lx g (i + (1 : Int32))) (lx g (i + (2 : Int32))) h1 = some (v, h2)) (kk : qV l g mL_law 2048 0 600000 7302250 ce sl qZl 1098 [(0, .ref 1000300), (1, .ref 0), (2, .ref 61), (3, .int i)] [] h2) : qV l g mL_law 2048 0 600000 7302250 ce sl qZl 675 [(0, .ref 1000300), (1, .ref 0), (2, .ref 61), (3, .int i)] [] h := by
  refine q_aload_n dL_law_675 rfl ?_
  refine q_aload_n dL_law_676 rfl ?_
  refine q_iload_n dL_law_677 rfl ?_
  refine q_iconst (v := 1) dL_law_678 (by decide) ?_
  refine q_iadd dL_law_679 ?_
  refine q_sld dL_law_680 hv1 ?_
  refine q_aload_n dL_law_681 rfl ?_
  refine q_iload_n dL_law_682 rfl ?_
  refine q_iconst (v := 2) dL_law_683 (by decide) ?_
  refine q_iadd dL_law_684 ?_
  refine q_sld dL_law_685 hv2 ?_
  refine q_virt (as := [.int (lx g (i + (1 : Int32))), .int (lx g (i + (2 : Int32)))]) (rest := []) dL_law_686 vL_86 hx (CX11_law _ _ _ h v h1 e1) (Nat.le_of_ble_eq_true rfl) ⟨hce, hsl⟩ (fun w y hy _ => ?_)
  rw [hy.1, hy.2]
  show qV l g mL_law 2048 0 600000 7302250 ce sl qZl 689 [(0, .ref 1000300), (1, .ref 0), (2, .ref 61), (3, .int i)] [.int v] h1
  refine q_aload_n dL_law_689 rfl ?_
  refine q_aload_n dL_law_690 rfl ?_
  refine q_iload_n dL_law_691 rfl ?_
  refine q_iconst (v := 1) dL_law_692 (by decide) ?_
  refine q_iadd dL_law_693 ?_
  refine q_sld dL_law_694 hv1 ?_
  refine q_aload_n dL_law_695 rfl ?_
  refine q_iload_n dL_law_696 rfl ?_
  refine q_iconst (v := 2) dL_law_697 (by decide) ?_
  refine q_iadd dL_law_698 ?_
  refine q_sld dL_law_699 hv2 ?_
  refine q_virt (as := [.int (lx g (i + (1 : Int32))), .int (lx g (i + (2 : Int32)))]) (rest := [.int v]) dL_law_700 vL_89 hm (CX12_law _ _ _ h1 v h2 e2) (Nat.le_of_ble_eq_true rfl) ⟨hce, hsl⟩ (fun w y hy _ => ?_)
  rw [hy.1, hy.2]
  show qV l g mL_law 2048 0 600000 7302250 ce sl qZl 703 [(0, .ref 1000300), (1, .ref 0), (2, .ref 61), (3, .int i)] [.int v, .int v] h2
  exact q_icmp_eq (tgt := 1098) dL_law_703 (by decide) (fun _ => kk) (fun q => absurd rfl q)
set_option maxRecDepth 100000 in
set_option maxHeartbeats 4000000 in
theorem law_c18 {l : Launch} {g : qG} {ce sl : Nat} {i : Int32} {h h1 h2 : qH} {v : Int32} {fs fs2 : List Value} (hv1 : vp_in (i + (1 : Int32)) g.2.2.2.2.2.1) (hv2 : vp_in (i + (2 : Int32)) g.2.2.2.2.2.1) (hv3 : vp_in (i + (3 : Int32)) g.2.2.2.2.2.1) (hv4 : vp_in (i + (4 : Int32)) g.2.2.2.2.2.1) (hce : ce ≤ 600000) (hsl : sl ≤ 7302250) (hx : h[0]? = some (.inr (.inr (11, fs)))) (hm : h1[61]? = some (.inr (.inr (12, fs2)))) (e1 : FX11_noLaw 0 (lx g (i + (1 : Int32))) h = some (v, h1)) (e2 : FX12_noLaw 61 (lx g (i + (1 : Int32))) h1 = some (v, h2)) (kk : qV l g mL_law 2048 0 600000 7302250 ce sl qZl 1098 [(0, .ref 1000300), (1, .ref 0), (2, .ref 61), (3, .int i)] [] h2) : qV l g mL_law 2048 0 600000 7302250 ce sl qZl 708 [(0, .ref 1000300), (1, .ref 0), (2, .ref 61), (3, .int i)] [] h := by
  refine q_aload_n dL_law_708 rfl ?_
  refine q_aload_n dL_law_709 rfl ?_
  refine q_iload_n dL_law_710 rfl ?_
  refine q_iconst (v := 1) dL_law_711 (by decide) ?_
  refine q_iadd dL_law_712 ?_
  refine q_sld dL_law_713 hv1 ?_
  refine q_virt (as := [.int (lx g (i + (1 : Int32)))]) (rest := []) dL_law_714 vL_90 hx (CX11_noLaw _ _ h v h1 e1) (Nat.le_of_ble_eq_true rfl) ⟨hce, hsl⟩ (fun w y hy _ => ?_)
  rw [hy.1, hy.2]
  show qV l g mL_law 2048 0 600000 7302250 ce sl qZl 717 [(0, .ref 1000300), (1, .ref 0), (2, .ref 61), (3, .int i)] [.int v] h1
  refine q_aload_n dL_law_717 rfl ?_
  refine q_aload_n dL_law_718 rfl ?_
  refine q_iload_n dL_law_719 rfl ?_
  refine q_iconst (v := 1) dL_law_720 (by decide) ?_
  refine q_iadd dL_law_721 ?_
  refine q_sld dL_law_722 hv1 ?_
  refine q_virt (as := [.int (lx g (i + (1 : Int32)))]) (rest := [.int v]) dL_law_723 vL_93 hm (CX12_noLaw _ _ h1 v h2 e2) (Nat.le_of_ble_eq_true rfl) ⟨hce, hsl⟩ (fun w y hy _ => ?_)
  rw [hy.1, hy.2]
  show qV l g mL_law 2048 0 600000 7302250 ce sl qZl 726 [(0, .ref 1000300), (1, .ref 0), (2, .ref 61), (3, .int i)] [.int v, .int v] h2
  exact q_icmp_eq (tgt := 1098) dL_law_726 (by decide) (fun _ => kk) (fun q => absurd rfl q)
set_option maxRecDepth 100000 in
set_option maxHeartbeats 4000000 in
theorem law_c19 {l : Launch} {g : qG} {ce sl : Nat} {i : Int32} {h h1 h2 : qH} {v : Int32} {fs fs2 : List Value} (hv1 : vp_in (i + (1 : Int32)) g.2.2.2.2.2.1) (hv2 : vp_in (i + (2 : Int32)) g.2.2.2.2.2.1) (hv3 : vp_in (i + (3 : Int32)) g.2.2.2.2.2.1) (hv4 : vp_in (i + (4 : Int32)) g.2.2.2.2.2.1) (hce : ce ≤ 600000) (hsl : sl ≤ 7302250) (hx : h[0]? = some (.inr (.inr (11, fs)))) (hm : h1[61]? = some (.inr (.inr (12, fs2)))) (e1 : FX11_word 0 (lx g (i + (1 : Int32))) h = some (v, h1)) (e2 : FX12_word 61 (lx g (i + (1 : Int32))) h1 = some (v, h2)) (kk : qV l g mL_law 2048 0 600000 7302250 ce sl qZl 1098 [(0, .ref 1000300), (1, .ref 0), (2, .ref 61), (3, .int i)] [] h2) : qV l g mL_law 2048 0 600000 7302250 ce sl qZl 731 [(0, .ref 1000300), (1, .ref 0), (2, .ref 61), (3, .int i)] [] h := by
  refine q_aload_n dL_law_731 rfl ?_
  refine q_aload_n dL_law_732 rfl ?_
  refine q_iload_n dL_law_733 rfl ?_
  refine q_iconst (v := 1) dL_law_734 (by decide) ?_
  refine q_iadd dL_law_735 ?_
  refine q_sld dL_law_736 hv1 ?_
  refine q_virt (as := [.int (lx g (i + (1 : Int32)))]) (rest := []) dL_law_737 vL_94 hx (CX11_word _ _ h v h1 e1) (Nat.le_of_ble_eq_true rfl) ⟨hce, hsl⟩ (fun w y hy _ => ?_)
  rw [hy.1, hy.2]
  show qV l g mL_law 2048 0 600000 7302250 ce sl qZl 740 [(0, .ref 1000300), (1, .ref 0), (2, .ref 61), (3, .int i)] [.int v] h1
  refine q_aload_n dL_law_740 rfl ?_
  refine q_aload_n dL_law_741 rfl ?_
  refine q_iload_n dL_law_742 rfl ?_
  refine q_iconst (v := 1) dL_law_743 (by decide) ?_
  refine q_iadd dL_law_744 ?_
  refine q_sld dL_law_745 hv1 ?_
  refine q_virt (as := [.int (lx g (i + (1 : Int32)))]) (rest := [.int v]) dL_law_746 vL_97 hm (CX12_word _ _ h1 v h2 e2) (Nat.le_of_ble_eq_true rfl) ⟨hce, hsl⟩ (fun w y hy _ => ?_)
  rw [hy.1, hy.2]
  show qV l g mL_law 2048 0 600000 7302250 ce sl qZl 749 [(0, .ref 1000300), (1, .ref 0), (2, .ref 61), (3, .int i)] [.int v, .int v] h2
  exact q_icmp_eq (tgt := 1098) dL_law_749 (by decide) (fun _ => kk) (fun q => absurd rfl q)
set_option maxRecDepth 100000 in
set_option maxHeartbeats 4000000 in
theorem law_c20 {l : Launch} {g : qG} {ce sl : Nat} {i : Int32} {h h1 h2 : qH} {v : Int32} {fs fs2 : List Value} (hv1 : vp_in (i + (1 : Int32)) g.2.2.2.2.2.1) (hv2 : vp_in (i + (2 : Int32)) g.2.2.2.2.2.1) (hv3 : vp_in (i + (3 : Int32)) g.2.2.2.2.2.1) (hv4 : vp_in (i + (4 : Int32)) g.2.2.2.2.2.1) (hce : ce ≤ 600000) (hsl : sl ≤ 7302250) (hx : h[0]? = some (.inr (.inr (11, fs)))) (hm : h1[61]? = some (.inr (.inr (12, fs2)))) (e1 : FX11_silent 0  h = some (v, h1)) (e2 : FX12_silent 61  h1 = some (v, h2)) (kk : qV l g mL_law 2048 0 600000 7302250 ce sl qZl 1098 [(0, .ref 1000300), (1, .ref 0), (2, .ref 61), (3, .int i)] [] h2) : qV l g mL_law 2048 0 600000 7302250 ce sl qZl 754 [(0, .ref 1000300), (1, .ref 0), (2, .ref 61), (3, .int i)] [] h := by
  refine q_aload_n dL_law_754 rfl ?_
  refine q_virt (as := []) (rest := []) dL_law_755 vL_98 hx (CX11_silent _ h v h1 e1) (Nat.le_of_ble_eq_true rfl) ⟨hce, hsl⟩ (fun w y hy _ => ?_)
  rw [hy.1, hy.2]
  show qV l g mL_law 2048 0 600000 7302250 ce sl qZl 758 [(0, .ref 1000300), (1, .ref 0), (2, .ref 61), (3, .int i)] [.int v] h1
  refine q_aload_n dL_law_758 rfl ?_
  refine q_virt (as := []) (rest := [.int v]) dL_law_759 vL_101 hm (CX12_silent _ h1 v h2 e2) (Nat.le_of_ble_eq_true rfl) ⟨hce, hsl⟩ (fun w y hy _ => ?_)
  rw [hy.1, hy.2]
  show qV l g mL_law 2048 0 600000 7302250 ce sl qZl 762 [(0, .ref 1000300), (1, .ref 0), (2, .ref 61), (3, .int i)] [.int v, .int v] h2
  exact q_icmp_eq (tgt := 1098) dL_law_762 (by decide) (fun _ => kk) (fun q => absurd rfl q)
set_option maxRecDepth 100000 in
set_option maxHeartbeats 4000000 in
theorem law_c21 {l : Launch} {g : qG} {ce sl : Nat} {i : Int32} {h h1 h2 : qH} {v : Int32} {fs fs2 : List Value} (hv1 : vp_in (i + (1 : Int32)) g.2.2.2.2.2.1) (hv2 : vp_in (i + (2 : Int32)) g.2.2.2.2.2.1) (hv3 : vp_in (i + (3 : Int32)) g.2.2.2.2.2.1) (hv4 : vp_in (i + (4 : Int32)) g.2.2.2.2.2.1) (hce : ce ≤ 600000) (hsl : sl ≤ 7302250) (hx : h[0]? = some (.inr (.inr (11, fs)))) (hm : h1[61]? = some (.inr (.inr (12, fs2)))) (e1 : FX11_met 0 (lx g (i + (1 : Int32))) (lx g (i + (2 : Int32))) h = some (v, h1)) (e2 : FX12_met 61 (lx g (i + (1 : Int32))) (lx g (i + (2 : Int32))) h1 = some (v, h2)) (kk : qV l g mL_law 2048 0 600000 7302250 ce sl qZl 1098 [(0, .ref 1000300), (1, .ref 0), (2, .ref 61), (3, .int i)] [] h2) : qV l g mL_law 2048 0 600000 7302250 ce sl qZl 767 [(0, .ref 1000300), (1, .ref 0), (2, .ref 61), (3, .int i)] [] h := by
  refine q_aload_n dL_law_767 rfl ?_
  refine q_aload_n dL_law_768 rfl ?_
  refine q_iload_n dL_law_769 rfl ?_
  refine q_iconst (v := 1) dL_law_770 (by decide) ?_
  refine q_iadd dL_law_771 ?_
  refine q_sld dL_law_772 hv1 ?_
  refine q_aload_n dL_law_773 rfl ?_
  refine q_iload_n dL_law_774 rfl ?_
  refine q_iconst (v := 2) dL_law_775 (by decide) ?_
  refine q_iadd dL_law_776 ?_
  refine q_sld dL_law_777 hv2 ?_
  refine q_virt (as := [.int (lx g (i + (1 : Int32))), .int (lx g (i + (2 : Int32)))]) (rest := []) dL_law_778 vL_102 hx (CX11_met _ _ _ h v h1 e1) (Nat.le_of_ble_eq_true rfl) ⟨hce, hsl⟩ (fun w y hy _ => ?_)
  rw [hy.1, hy.2]
  show qV l g mL_law 2048 0 600000 7302250 ce sl qZl 781 [(0, .ref 1000300), (1, .ref 0), (2, .ref 61), (3, .int i)] [.int v] h1
  refine q_aload_n dL_law_781 rfl ?_
  refine q_aload_n dL_law_782 rfl ?_
  refine q_iload_n dL_law_783 rfl ?_
  refine q_iconst (v := 1) dL_law_784 (by decide) ?_
  refine q_iadd dL_law_785 ?_
  refine q_sld dL_law_786 hv1 ?_
  refine q_aload_n dL_law_787 rfl ?_
  refine q_iload_n dL_law_788 rfl ?_
  refine q_iconst (v := 2) dL_law_789 (by decide) ?_
  refine q_iadd dL_law_790 ?_
  refine q_sld dL_law_791 hv2 ?_
  refine q_virt (as := [.int (lx g (i + (1 : Int32))), .int (lx g (i + (2 : Int32)))]) (rest := [.int v]) dL_law_792 vL_105 hm (CX12_met _ _ _ h1 v h2 e2) (Nat.le_of_ble_eq_true rfl) ⟨hce, hsl⟩ (fun w y hy _ => ?_)
  rw [hy.1, hy.2]
  show qV l g mL_law 2048 0 600000 7302250 ce sl qZl 795 [(0, .ref 1000300), (1, .ref 0), (2, .ref 61), (3, .int i)] [.int v, .int v] h2
  exact q_icmp_eq (tgt := 1098) dL_law_795 (by decide) (fun _ => kk) (fun q => absurd rfl q)
set_option maxRecDepth 100000 in
set_option maxHeartbeats 4000000 in
theorem law_c22 {l : Launch} {g : qG} {ce sl : Nat} {i : Int32} {h h1 h2 : qH} {v : Int32} {fs fs2 : List Value} (hv1 : vp_in (i + (1 : Int32)) g.2.2.2.2.2.1) (hv2 : vp_in (i + (2 : Int32)) g.2.2.2.2.2.1) (hv3 : vp_in (i + (3 : Int32)) g.2.2.2.2.2.1) (hv4 : vp_in (i + (4 : Int32)) g.2.2.2.2.2.1) (hce : ce ≤ 600000) (hsl : sl ≤ 7302250) (hx : h[0]? = some (.inr (.inr (11, fs)))) (hm : h1[61]? = some (.inr (.inr (12, fs2)))) (e1 : FX11_show 0 (lx g (i + (1 : Int32))) (lx g (i + (2 : Int32))) h = some (v, h1)) (e2 : FX12_show 61 (lx g (i + (1 : Int32))) (lx g (i + (2 : Int32))) h1 = some (v, h2)) (kk : qV l g mL_law 2048 0 600000 7302250 ce sl qZl 1098 [(0, .ref 1000300), (1, .ref 0), (2, .ref 61), (3, .int i)] [] h2) : qV l g mL_law 2048 0 600000 7302250 ce sl qZl 800 [(0, .ref 1000300), (1, .ref 0), (2, .ref 61), (3, .int i)] [] h := by
  refine q_aload_n dL_law_800 rfl ?_
  refine q_aload_n dL_law_801 rfl ?_
  refine q_iload_n dL_law_802 rfl ?_
  refine q_iconst (v := 1) dL_law_803 (by decide) ?_
  refine q_iadd dL_law_804 ?_
  refine q_sld dL_law_805 hv1 ?_
  refine q_aload_n dL_law_806 rfl ?_
  refine q_iload_n dL_law_807 rfl ?_
  refine q_iconst (v := 2) dL_law_808 (by decide) ?_
  refine q_iadd dL_law_809 ?_
  refine q_sld dL_law_810 hv2 ?_
  refine q_virt (as := [.int (lx g (i + (1 : Int32))), .int (lx g (i + (2 : Int32)))]) (rest := []) dL_law_811 vL_106 hx (CX11_show _ _ _ h v h1 e1) (Nat.le_of_ble_eq_true rfl) ⟨hce, hsl⟩ (fun w y hy _ => ?_)
  rw [hy.1, hy.2]
  show qV l g mL_law 2048 0 600000 7302250 ce sl qZl 814 [(0, .ref 1000300), (1, .ref 0), (2, .ref 61), (3, .int i)] [.int v] h1
  refine q_aload_n dL_law_814 rfl ?_
  refine q_aload_n dL_law_815 rfl ?_
  refine q_iload_n dL_law_816 rfl ?_
  refine q_iconst (v := 1) dL_law_817 (by decide) ?_
  refine q_iadd dL_law_818 ?_
  refine q_sld dL_law_819 hv1 ?_
  refine q_aload_n dL_law_820 rfl ?_
  refine q_iload_n dL_law_821 rfl ?_
  refine q_iconst (v := 2) dL_law_822 (by decide) ?_
  refine q_iadd dL_law_823 ?_
  refine q_sld dL_law_824 hv2 ?_
  refine q_virt (as := [.int (lx g (i + (1 : Int32))), .int (lx g (i + (2 : Int32)))]) (rest := [.int v]) dL_law_825 vL_109 hm (CX12_show _ _ _ h1 v h2 e2) (Nat.le_of_ble_eq_true rfl) ⟨hce, hsl⟩ (fun w y hy _ => ?_)
  rw [hy.1, hy.2]
  show qV l g mL_law 2048 0 600000 7302250 ce sl qZl 828 [(0, .ref 1000300), (1, .ref 0), (2, .ref 61), (3, .int i)] [.int v, .int v] h2
  exact q_icmp_eq (tgt := 1098) dL_law_828 (by decide) (fun _ => kk) (fun q => absurd rfl q)
set_option maxRecDepth 100000 in
set_option maxHeartbeats 4000000 in
theorem law_c23 {l : Launch} {g : qG} {ce sl : Nat} {i : Int32} {h h1 h2 : qH} {v : Int32} {fs fs2 : List Value} (hv1 : vp_in (i + (1 : Int32)) g.2.2.2.2.2.1) (hv2 : vp_in (i + (2 : Int32)) g.2.2.2.2.2.1) (hv3 : vp_in (i + (3 : Int32)) g.2.2.2.2.2.1) (hv4 : vp_in (i + (4 : Int32)) g.2.2.2.2.2.1) (hce : ce ≤ 600000) (hsl : sl ≤ 7302250) (hx : h[0]? = some (.inr (.inr (11, fs)))) (hm : h1[61]? = some (.inr (.inr (12, fs2)))) (e1 : FX11_noTrial 0  h = some (v, h1)) (e2 : FX12_noTrial 61  h1 = some (v, h2)) (kk : qV l g mL_law 2048 0 600000 7302250 ce sl qZl 1098 [(0, .ref 1000300), (1, .ref 0), (2, .ref 61), (3, .int i)] [] h2) : qV l g mL_law 2048 0 600000 7302250 ce sl qZl 833 [(0, .ref 1000300), (1, .ref 0), (2, .ref 61), (3, .int i)] [] h := by
  refine q_aload_n dL_law_833 rfl ?_
  refine q_virt (as := []) (rest := []) dL_law_834 vL_110 hx (CX11_noTrial _ h v h1 e1) (Nat.le_of_ble_eq_true rfl) ⟨hce, hsl⟩ (fun w y hy _ => ?_)
  rw [hy.1, hy.2]
  show qV l g mL_law 2048 0 600000 7302250 ce sl qZl 837 [(0, .ref 1000300), (1, .ref 0), (2, .ref 61), (3, .int i)] [.int v] h1
  refine q_aload_n dL_law_837 rfl ?_
  refine q_virt (as := []) (rest := [.int v]) dL_law_838 vL_113 hm (CX12_noTrial _ h1 v h2 e2) (Nat.le_of_ble_eq_true rfl) ⟨hce, hsl⟩ (fun w y hy _ => ?_)
  rw [hy.1, hy.2]
  show qV l g mL_law 2048 0 600000 7302250 ce sl qZl 841 [(0, .ref 1000300), (1, .ref 0), (2, .ref 61), (3, .int i)] [.int v, .int v] h2
  exact q_icmp_eq (tgt := 1098) dL_law_841 (by decide) (fun _ => kk) (fun q => absurd rfl q)
set_option maxRecDepth 100000 in
set_option maxHeartbeats 4000000 in
theorem law_c24 {l : Launch} {g : qG} {ce sl : Nat} {i : Int32} {h h1 h2 : qH} {v : Int32} {fs fs2 : List Value} (hv1 : vp_in (i + (1 : Int32)) g.2.2.2.2.2.1) (hv2 : vp_in (i + (2 : Int32)) g.2.2.2.2.2.1) (hv3 : vp_in (i + (3 : Int32)) g.2.2.2.2.2.1) (hv4 : vp_in (i + (4 : Int32)) g.2.2.2.2.2.1) (hce : ce ≤ 600000) (hsl : sl ≤ 7302250) (hx : h[0]? = some (.inr (.inr (11, fs)))) (hm : h1[61]? = some (.inr (.inr (12, fs2)))) (e1 : FX11_lasts 0 (lx g (i + (1 : Int32))) (lx g (i + (2 : Int32))) h = some (v, h1)) (e2 : FX12_lasts 61 (lx g (i + (1 : Int32))) (lx g (i + (2 : Int32))) h1 = some (v, h2)) (kk : qV l g mL_law 2048 0 600000 7302250 ce sl qZl 1098 [(0, .ref 1000300), (1, .ref 0), (2, .ref 61), (3, .int i)] [] h2) : qV l g mL_law 2048 0 600000 7302250 ce sl qZl 846 [(0, .ref 1000300), (1, .ref 0), (2, .ref 61), (3, .int i)] [] h := by
  refine q_aload_n dL_law_846 rfl ?_
  refine q_aload_n dL_law_847 rfl ?_
  refine q_iload_n dL_law_848 rfl ?_
  refine q_iconst (v := 1) dL_law_849 (by decide) ?_
  refine q_iadd dL_law_850 ?_
  refine q_sld dL_law_851 hv1 ?_
  refine q_aload_n dL_law_852 rfl ?_
  refine q_iload_n dL_law_853 rfl ?_
  refine q_iconst (v := 2) dL_law_854 (by decide) ?_
  refine q_iadd dL_law_855 ?_
  refine q_sld dL_law_856 hv2 ?_
  refine q_virt (as := [.int (lx g (i + (1 : Int32))), .int (lx g (i + (2 : Int32)))]) (rest := []) dL_law_857 vL_114 hx (CX11_lasts _ _ _ h v h1 e1) (Nat.le_of_ble_eq_true rfl) ⟨hce, hsl⟩ (fun w y hy _ => ?_)
  rw [hy.1, hy.2]
  show qV l g mL_law 2048 0 600000 7302250 ce sl qZl 860 [(0, .ref 1000300), (1, .ref 0), (2, .ref 61), (3, .int i)] [.int v] h1
  refine q_aload_n dL_law_860 rfl ?_
  refine q_aload_n dL_law_861 rfl ?_
  refine q_iload_n dL_law_862 rfl ?_
  refine q_iconst (v := 1) dL_law_863 (by decide) ?_
  refine q_iadd dL_law_864 ?_
  refine q_sld dL_law_865 hv1 ?_
  refine q_aload_n dL_law_866 rfl ?_
  refine q_iload_n dL_law_867 rfl ?_
  refine q_iconst (v := 2) dL_law_868 (by decide) ?_
  refine q_iadd dL_law_869 ?_
  refine q_sld dL_law_870 hv2 ?_
  refine q_virt (as := [.int (lx g (i + (1 : Int32))), .int (lx g (i + (2 : Int32)))]) (rest := [.int v]) dL_law_871 vL_117 hm (CX12_lasts _ _ _ h1 v h2 e2) (Nat.le_of_ble_eq_true rfl) ⟨hce, hsl⟩ (fun w y hy _ => ?_)
  rw [hy.1, hy.2]
  show qV l g mL_law 2048 0 600000 7302250 ce sl qZl 874 [(0, .ref 1000300), (1, .ref 0), (2, .ref 61), (3, .int i)] [.int v, .int v] h2
  exact q_icmp_eq (tgt := 1098) dL_law_874 (by decide) (fun _ => kk) (fun q => absurd rfl q)
set_option maxRecDepth 100000 in
set_option maxHeartbeats 4000000 in
theorem law_c25 {l : Launch} {g : qG} {ce sl : Nat} {i : Int32} {h h1 h2 : qH} {v : Int32} {fs fs2 : List Value} (hv1 : vp_in (i + (1 : Int32)) g.2.2.2.2.2.1) (hv2 : vp_in (i + (2 : Int32)) g.2.2.2.2.2.1) (hv3 : vp_in (i + (3 : Int32)) g.2.2.2.2.2.1) (hv4 : vp_in (i + (4 : Int32)) g.2.2.2.2.2.1) (hce : ce ≤ 600000) (hsl : sl ≤ 7302250) (hx : h[0]? = some (.inr (.inr (11, fs)))) (hm : h1[61]? = some (.inr (.inr (12, fs2)))) (e1 : FX11_type 0 ((((lx g (i + (1 : Int32)))).toInt64 <<< ((32 : Int32).toInt64 &&& 63)) ||| (((lx g (i + (2 : Int32)))).toInt64 &&& (4294967295 : Int64))) (lx g (i + (3 : Int32))) h = some (v, h1)) (e2 : FX12_type 61 ((((lx g (i + (1 : Int32)))).toInt64 <<< ((32 : Int32).toInt64 &&& 63)) ||| (((lx g (i + (2 : Int32)))).toInt64 &&& (4294967295 : Int64))) (lx g (i + (3 : Int32))) h1 = some (v, h2)) (kk : qV l g mL_law 2048 0 600000 7302250 ce sl qZl 1098 [(0, .ref 1000300), (1, .ref 0), (2, .ref 61), (3, .int i)] [] h2) : qV l g mL_law 2048 0 600000 7302250 ce sl qZl 879 [(0, .ref 1000300), (1, .ref 0), (2, .ref 61), (3, .int i)] [] h := by
  refine q_aload_n dL_law_879 rfl ?_
  refine q_aload_n dL_law_880 rfl ?_
  refine q_iload_n dL_law_881 rfl ?_
  refine q_iconst (v := 1) dL_law_882 (by decide) ?_
  refine q_iadd dL_law_883 ?_
  refine q_sld dL_law_884 hv1 ?_
  refine q_i2l dL_law_885 ?_
  refine q_bipush (v := 32) dL_law_886 (by decide) ?_
  refine q_lshl dL_law_888 ?_
  refine q_aload_n dL_law_889 rfl ?_
  refine q_iload_n dL_law_890 rfl ?_
  refine q_iconst (v := 2) dL_law_891 (by decide) ?_
  refine q_iadd dL_law_892 ?_
  refine q_sld dL_law_893 hv2 ?_
  refine q_i2l dL_law_894 ?_
  refine q_ldc2 dL_law_895 lL_118 ?_
  refine q_land dL_law_898 ?_
  refine q_lor dL_law_899 ?_
  refine q_aload_n dL_law_900 rfl ?_
  refine q_iload_n dL_law_901 rfl ?_
  refine q_iconst (v := 3) dL_law_902 (by decide) ?_
  refine q_iadd dL_law_903 ?_
  refine q_sld dL_law_904 hv3 ?_
  refine q_virt (as := [.long ((((lx g (i + (1 : Int32)))).toInt64 <<< ((32 : Int32).toInt64 &&& 63)) ||| (((lx g (i + (2 : Int32)))).toInt64 &&& (4294967295 : Int64))), .int (lx g (i + (3 : Int32)))]) (rest := []) dL_law_905 vL_120 hx (CX11_type _ _ _ h v h1 e1) (Nat.le_of_ble_eq_true rfl) ⟨hce, hsl⟩ (fun w y hy _ => ?_)
  rw [hy.1, hy.2]
  show qV l g mL_law 2048 0 600000 7302250 ce sl qZl 908 [(0, .ref 1000300), (1, .ref 0), (2, .ref 61), (3, .int i)] [.int v] h1
  refine q_aload_n dL_law_908 rfl ?_
  refine q_aload_n dL_law_909 rfl ?_
  refine q_iload_n dL_law_910 rfl ?_
  refine q_iconst (v := 1) dL_law_911 (by decide) ?_
  refine q_iadd dL_law_912 ?_
  refine q_sld dL_law_913 hv1 ?_
  refine q_i2l dL_law_914 ?_
  refine q_bipush (v := 32) dL_law_915 (by decide) ?_
  refine q_lshl dL_law_917 ?_
  refine q_aload_n dL_law_918 rfl ?_
  refine q_iload_n dL_law_919 rfl ?_
  refine q_iconst (v := 2) dL_law_920 (by decide) ?_
  refine q_iadd dL_law_921 ?_
  refine q_sld dL_law_922 hv2 ?_
  refine q_i2l dL_law_923 ?_
  refine q_ldc2 dL_law_924 lL_118 ?_
  refine q_land dL_law_927 ?_
  refine q_lor dL_law_928 ?_
  refine q_aload_n dL_law_929 rfl ?_
  refine q_iload_n dL_law_930 rfl ?_
  refine q_iconst (v := 3) dL_law_931 (by decide) ?_
  refine q_iadd dL_law_932 ?_
  refine q_sld dL_law_933 hv3 ?_
  refine q_virt (as := [.long ((((lx g (i + (1 : Int32)))).toInt64 <<< ((32 : Int32).toInt64 &&& 63)) ||| (((lx g (i + (2 : Int32)))).toInt64 &&& (4294967295 : Int64))), .int (lx g (i + (3 : Int32)))]) (rest := [.int v]) dL_law_934 vL_124 hm (CX12_type _ _ _ h1 v h2 e2) (Nat.le_of_ble_eq_true rfl) ⟨hce, hsl⟩ (fun w y hy _ => ?_)
  rw [hy.1, hy.2]
  show qV l g mL_law 2048 0 600000 7302250 ce sl qZl 937 [(0, .ref 1000300), (1, .ref 0), (2, .ref 61), (3, .int i)] [.int v, .int v] h2
  exact q_icmp_eq (tgt := 1098) dL_law_937 (by decide) (fun _ => kk) (fun q => absurd rfl q)
set_option maxRecDepth 100000 in
set_option maxHeartbeats 4000000 in
theorem law_c26 {l : Launch} {g : qG} {ce sl : Nat} {i : Int32} {h h1 h2 : qH} {v : Int32} {fs fs2 : List Value} (hv1 : vp_in (i + (1 : Int32)) g.2.2.2.2.2.1) (hv2 : vp_in (i + (2 : Int32)) g.2.2.2.2.2.1) (hv3 : vp_in (i + (3 : Int32)) g.2.2.2.2.2.1) (hv4 : vp_in (i + (4 : Int32)) g.2.2.2.2.2.1) (hce : ce ≤ 600000) (hsl : sl ≤ 7302250) (hx : h[0]? = some (.inr (.inr (11, fs)))) (hm : h1[61]? = some (.inr (.inr (12, fs2)))) (e1 : FX11_clear 0  h = some (v, h1)) (e2 : FX12_clear 61  h1 = some (v, h2)) (kk : qV l g mL_law 2048 0 600000 7302250 ce sl qZl 1098 [(0, .ref 1000300), (1, .ref 0), (2, .ref 61), (3, .int i)] [] h2) : qV l g mL_law 2048 0 600000 7302250 ce sl qZl 942 [(0, .ref 1000300), (1, .ref 0), (2, .ref 61), (3, .int i)] [] h := by
  refine q_aload_n dL_law_942 rfl ?_
  refine q_virt (as := []) (rest := []) dL_law_943 vL_125 hx (CX11_clear _ h v h1 e1) (Nat.le_of_ble_eq_true rfl) ⟨hce, hsl⟩ (fun w y hy _ => ?_)
  rw [hy.1, hy.2]
  show qV l g mL_law 2048 0 600000 7302250 ce sl qZl 946 [(0, .ref 1000300), (1, .ref 0), (2, .ref 61), (3, .int i)] [.int v] h1
  refine q_aload_n dL_law_946 rfl ?_
  refine q_virt (as := []) (rest := [.int v]) dL_law_947 vL_128 hm (CX12_clear _ h1 v h2 e2) (Nat.le_of_ble_eq_true rfl) ⟨hce, hsl⟩ (fun w y hy _ => ?_)
  rw [hy.1, hy.2]
  show qV l g mL_law 2048 0 600000 7302250 ce sl qZl 950 [(0, .ref 1000300), (1, .ref 0), (2, .ref 61), (3, .int i)] [.int v, .int v] h2
  exact q_icmp_eq (tgt := 1098) dL_law_950 (by decide) (fun _ => kk) (fun q => absurd rfl q)
set_option maxRecDepth 100000 in
set_option maxHeartbeats 4000000 in
theorem law_c27 {l : Launch} {g : qG} {ce sl : Nat} {i : Int32} {h h1 h2 : qH} {v : Int32} {fs fs2 : List Value} (hv1 : vp_in (i + (1 : Int32)) g.2.2.2.2.2.1) (hv2 : vp_in (i + (2 : Int32)) g.2.2.2.2.2.1) (hv3 : vp_in (i + (3 : Int32)) g.2.2.2.2.2.1) (hv4 : vp_in (i + (4 : Int32)) g.2.2.2.2.2.1) (hce : ce ≤ 600000) (hsl : sl ≤ 7302250) (hx : h[0]? = some (.inr (.inr (11, fs)))) (hm : h1[61]? = some (.inr (.inr (12, fs2)))) (e1 : FX11_read 0  h = some (v, h1)) (e2 : FX12_read 61  h1 = some (v, h2)) (kk : qV l g mL_law 2048 0 600000 7302250 ce sl qZl 1098 [(0, .ref 1000300), (1, .ref 0), (2, .ref 61), (3, .int i)] [] h2) : qV l g mL_law 2048 0 600000 7302250 ce sl qZl 955 [(0, .ref 1000300), (1, .ref 0), (2, .ref 61), (3, .int i)] [] h := by
  refine q_aload_n dL_law_955 rfl ?_
  refine q_virt (as := []) (rest := []) dL_law_956 vL_129 hx (CX11_read _ h v h1 e1) (Nat.le_of_ble_eq_true rfl) ⟨hce, hsl⟩ (fun w y hy _ => ?_)
  rw [hy.1, hy.2]
  show qV l g mL_law 2048 0 600000 7302250 ce sl qZl 959 [(0, .ref 1000300), (1, .ref 0), (2, .ref 61), (3, .int i)] [.int v] h1
  refine q_aload_n dL_law_959 rfl ?_
  refine q_virt (as := []) (rest := [.int v]) dL_law_960 vL_132 hm (CX12_read _ h1 v h2 e2) (Nat.le_of_ble_eq_true rfl) ⟨hce, hsl⟩ (fun w y hy _ => ?_)
  rw [hy.1, hy.2]
  show qV l g mL_law 2048 0 600000 7302250 ce sl qZl 963 [(0, .ref 1000300), (1, .ref 0), (2, .ref 61), (3, .int i)] [.int v, .int v] h2
  exact q_icmp_eq (tgt := 1098) dL_law_963 (by decide) (fun _ => kk) (fun q => absurd rfl q)
set_option maxRecDepth 100000 in
set_option maxHeartbeats 4000000 in
theorem law_c28 {l : Launch} {g : qG} {ce sl : Nat} {i : Int32} {h h1 h2 : qH} {v : Int64} {fs fs2 : List Value} (hv1 : vp_in (i + (1 : Int32)) g.2.2.2.2.2.1) (hv2 : vp_in (i + (2 : Int32)) g.2.2.2.2.2.1) (hv3 : vp_in (i + (3 : Int32)) g.2.2.2.2.2.1) (hv4 : vp_in (i + (4 : Int32)) g.2.2.2.2.2.1) (hce : ce ≤ 600000) (hsl : sl ≤ 7302250) (hx : h[0]? = some (.inr (.inr (11, fs)))) (hm : h1[61]? = some (.inr (.inr (12, fs2)))) (e1 : FX11_part 0 (lx g (i + (1 : Int32))) h = some (v, h1)) (e2 : FX12_part 61 (lx g (i + (1 : Int32))) h1 = some (v, h2)) (kk : qV l g mL_law 2048 0 600000 7302250 ce sl qZl 1098 [(0, .ref 1000300), (1, .ref 0), (2, .ref 61), (3, .int i)] [] h2) : qV l g mL_law 2048 0 600000 7302250 ce sl qZl 968 [(0, .ref 1000300), (1, .ref 0), (2, .ref 61), (3, .int i)] [] h := by
  refine q_aload_n dL_law_968 rfl ?_
  refine q_aload_n dL_law_969 rfl ?_
  refine q_iload_n dL_law_970 rfl ?_
  refine q_iconst (v := 1) dL_law_971 (by decide) ?_
  refine q_iadd dL_law_972 ?_
  refine q_sld dL_law_973 hv1 ?_
  refine q_virt (as := [.int (lx g (i + (1 : Int32)))]) (rest := []) dL_law_974 vL_133 hx (CX11_part _ _ h v h1 e1) (Nat.le_of_ble_eq_true rfl) ⟨hce, hsl⟩ (fun w y hy _ => ?_)
  rw [hy.1, hy.2]
  show qV l g mL_law 2048 0 600000 7302250 ce sl qZl 977 [(0, .ref 1000300), (1, .ref 0), (2, .ref 61), (3, .int i)] [.long v] h1
  refine q_aload_n dL_law_977 rfl ?_
  refine q_aload_n dL_law_978 rfl ?_
  refine q_iload_n dL_law_979 rfl ?_
  refine q_iconst (v := 1) dL_law_980 (by decide) ?_
  refine q_iadd dL_law_981 ?_
  refine q_sld dL_law_982 hv1 ?_
  refine q_virt (as := [.int (lx g (i + (1 : Int32)))]) (rest := [.long v]) dL_law_983 vL_137 hm (CX12_part _ _ h1 v h2 e2) (Nat.le_of_ble_eq_true rfl) ⟨hce, hsl⟩ (fun w y hy _ => ?_)
  rw [hy.1, hy.2]
  show qV l g mL_law 2048 0 600000 7302250 ce sl qZl 986 [(0, .ref 1000300), (1, .ref 0), (2, .ref 61), (3, .int i)] [.long v, .long v] h2
  refine q_lcmp dL_law_986 ?_
  exact q_if_eq (tgt := 1098) dL_law_987 (by decide) (fun _ => kk) (fun q => absurd (lg_cmp_self v) q)
set_option maxRecDepth 100000 in
set_option maxHeartbeats 4000000 in
theorem law_c29S {l : Launch} {g : qG} {ce sl : Nat} {i : Int32} {h h1 h2 : qH} {v : Int32} {fs fs2 : List Value} (hv1 : vp_in (i + (1 : Int32)) g.2.2.2.2.2.1) (hv2 : vp_in (i + (2 : Int32)) g.2.2.2.2.2.1) (hv3 : vp_in (i + (3 : Int32)) g.2.2.2.2.2.1) (hv4 : vp_in (i + (4 : Int32)) g.2.2.2.2.2.1) (hce : ce ≤ 600000) (hsl : sl ≤ 7302250) (hx : h[0]? = some (.inr (.inr (11, fs)))) (hm : h1[61]? = some (.inr (.inr (12, fs2)))) (e1 : FX11_imageS 0 (lx g (i + (1 : Int32))) h = some (v, h1)) (e2 : FX12_image 61 (lx g (i + (1 : Int32))) h1 = some (v, h2)) (kk : qV l g mL_law 2048 0 600000 7302250 ce sl qZl 1098 [(0, .ref 1000300), (1, .ref 0), (2, .ref 61), (3, .int i)] [] h2) : qV l g mL_law 2048 0 600000 7302250 ce sl qZl 992 [(0, .ref 1000300), (1, .ref 0), (2, .ref 61), (3, .int i)] [] h := by
  refine q_aload_n dL_law_992 rfl ?_
  refine q_aload_n dL_law_993 rfl ?_
  refine q_iload_n dL_law_994 rfl ?_
  refine q_iconst (v := 1) dL_law_995 (by decide) ?_
  refine q_iadd dL_law_996 ?_
  refine q_sld dL_law_997 hv1 ?_
  refine q_virt (as := [.int (lx g (i + (1 : Int32)))]) (rest := []) dL_law_998 vL_138 hx (CX11_imageS _ _ h v h1 e1) (Nat.le_of_ble_eq_true rfl) ⟨hce, hsl⟩ (fun w y hy _ => ?_)
  rw [hy.1, hy.2]
  show qV l g mL_law 2048 0 600000 7302250 ce sl qZl 1001 [(0, .ref 1000300), (1, .ref 0), (2, .ref 61), (3, .int i)] [.int v] h1
  refine q_aload_n dL_law_1001 rfl ?_
  refine q_aload_n dL_law_1002 rfl ?_
  refine q_iload_n dL_law_1003 rfl ?_
  refine q_iconst (v := 1) dL_law_1004 (by decide) ?_
  refine q_iadd dL_law_1005 ?_
  refine q_sld dL_law_1006 hv1 ?_
  refine q_virt (as := [.int (lx g (i + (1 : Int32)))]) (rest := [.int v]) dL_law_1007 vL_141 hm (CX12_image _ _ h1 v h2 e2) (Nat.le_of_ble_eq_true rfl) ⟨hce, hsl⟩ (fun w y hy _ => ?_)
  rw [hy.1, hy.2]
  show qV l g mL_law 2048 0 600000 7302250 ce sl qZl 1010 [(0, .ref 1000300), (1, .ref 0), (2, .ref 61), (3, .int i)] [.int v, .int v] h2
  exact q_icmp_eq (tgt := 1098) dL_law_1010 (by decide) (fun _ => kk) (fun q => absurd rfl q)
set_option maxRecDepth 100000 in
set_option maxHeartbeats 4000000 in
theorem law_c29N {l : Launch} {g : qG} {ce sl : Nat} {i : Int32} {h h1 h2 : qH} {v : Int32} {fs fs2 : List Value} (hv1 : vp_in (i + (1 : Int32)) g.2.2.2.2.2.1) (hv2 : vp_in (i + (2 : Int32)) g.2.2.2.2.2.1) (hv3 : vp_in (i + (3 : Int32)) g.2.2.2.2.2.1) (hv4 : vp_in (i + (4 : Int32)) g.2.2.2.2.2.1) (hce : (ce + 23) ≤ 600000) (hsl : (sl + 538) ≤ 7302250) (hx : h[0]? = some (.inr (.inr (11, fs)))) (hm : h1[61]? = some (.inr (.inr (12, fs2)))) (e1 : FX11_imageN 0 (lx g (i + (1 : Int32))) h = some (v, h1)) (e2 : FX12_image 61 (lx g (i + (1 : Int32))) h1 = some (v, h2)) (kk : qV l g mL_law 2048 0 600000 7302250 (ce + 23) (sl + 538) qZl 1098 [(0, .ref 1000300), (1, .ref 0), (2, .ref 61), (3, .int i)] [] h2) : qV l g mL_law 2048 0 600000 7302250 ce sl qZl 992 [(0, .ref 1000300), (1, .ref 0), (2, .ref 61), (3, .int i)] [] h := by
  refine q_aload_n dL_law_992 rfl ?_
  refine q_aload_n dL_law_993 rfl ?_
  refine q_iload_n dL_law_994 rfl ?_
  refine q_iconst (v := 1) dL_law_995 (by decide) ?_
  refine q_iadd dL_law_996 ?_
  refine q_sld dL_law_997 hv1 ?_
  refine q_virt (as := [.int (lx g (i + (1 : Int32)))]) (rest := []) dL_law_998 vL_138 hx (CX11_imageN _ _ h v h1 e1) (Nat.le_of_ble_eq_true rfl) ⟨hce, hsl⟩ (fun w y hy _ => ?_)
  rw [hy.1, hy.2]
  show qV l g mL_law 2048 0 600000 7302250 (ce + 23) (sl + 538) qZl 1001 [(0, .ref 1000300), (1, .ref 0), (2, .ref 61), (3, .int i)] [.int v] h1
  refine q_aload_n dL_law_1001 rfl ?_
  refine q_aload_n dL_law_1002 rfl ?_
  refine q_iload_n dL_law_1003 rfl ?_
  refine q_iconst (v := 1) dL_law_1004 (by decide) ?_
  refine q_iadd dL_law_1005 ?_
  refine q_sld dL_law_1006 hv1 ?_
  refine q_virt (as := [.int (lx g (i + (1 : Int32)))]) (rest := [.int v]) dL_law_1007 vL_141 hm (CX12_image _ _ h1 v h2 e2) (Nat.le_of_ble_eq_true rfl) ⟨hce, hsl⟩ (fun w y hy _ => ?_)
  rw [hy.1, hy.2]
  show qV l g mL_law 2048 0 600000 7302250 (ce + 23) (sl + 538) qZl 1010 [(0, .ref 1000300), (1, .ref 0), (2, .ref 61), (3, .int i)] [.int v, .int v] h2
  exact q_icmp_eq (tgt := 1098) dL_law_1010 (by decide) (fun _ => kk) (fun q => absurd rfl q)
set_option maxRecDepth 100000 in
set_option maxHeartbeats 4000000 in
theorem law_c30 {l : Launch} {g : qG} {ce sl : Nat} {i : Int32} {h h1 h2 : qH} {v : Int32} {fs fs2 : List Value} (hv1 : vp_in (i + (1 : Int32)) g.2.2.2.2.2.1) (hv2 : vp_in (i + (2 : Int32)) g.2.2.2.2.2.1) (hv3 : vp_in (i + (3 : Int32)) g.2.2.2.2.2.1) (hv4 : vp_in (i + (4 : Int32)) g.2.2.2.2.2.1) (hce : ce ≤ 600000) (hsl : sl ≤ 7302250) (hx : h[0]? = some (.inr (.inr (11, fs)))) (hm : h1[61]? = some (.inr (.inr (12, fs2)))) (e1 : FX11_from 0 (lx g (i + (1 : Int32))) h = some (v, h1)) (e2 : FX12_from 61 (lx g (i + (1 : Int32))) h1 = some (v, h2)) (kk : qV l g mL_law 2048 0 600000 7302250 ce sl qZl 1098 [(0, .ref 1000300), (1, .ref 0), (2, .ref 61), (3, .int i)] [] h2) : qV l g mL_law 2048 0 600000 7302250 ce sl qZl 1015 [(0, .ref 1000300), (1, .ref 0), (2, .ref 61), (3, .int i)] [] h := by
  refine q_aload_n dL_law_1015 rfl ?_
  refine q_aload_n dL_law_1016 rfl ?_
  refine q_iload_n dL_law_1017 rfl ?_
  refine q_iconst (v := 1) dL_law_1018 (by decide) ?_
  refine q_iadd dL_law_1019 ?_
  refine q_sld dL_law_1020 hv1 ?_
  refine q_virt (as := [.int (lx g (i + (1 : Int32)))]) (rest := []) dL_law_1021 vL_142 hx (CX11_from _ _ h v h1 e1) (Nat.le_of_ble_eq_true rfl) ⟨hce, hsl⟩ (fun w y hy _ => ?_)
  rw [hy.1, hy.2]
  show qV l g mL_law 2048 0 600000 7302250 ce sl qZl 1024 [(0, .ref 1000300), (1, .ref 0), (2, .ref 61), (3, .int i)] [.int v] h1
  refine q_aload_n dL_law_1024 rfl ?_
  refine q_aload_n dL_law_1025 rfl ?_
  refine q_iload_n dL_law_1026 rfl ?_
  refine q_iconst (v := 1) dL_law_1027 (by decide) ?_
  refine q_iadd dL_law_1028 ?_
  refine q_sld dL_law_1029 hv1 ?_
  refine q_virt (as := [.int (lx g (i + (1 : Int32)))]) (rest := [.int v]) dL_law_1030 vL_145 hm (CX12_from _ _ h1 v h2 e2) (Nat.le_of_ble_eq_true rfl) ⟨hce, hsl⟩ (fun w y hy _ => ?_)
  rw [hy.1, hy.2]
  show qV l g mL_law 2048 0 600000 7302250 ce sl qZl 1033 [(0, .ref 1000300), (1, .ref 0), (2, .ref 61), (3, .int i)] [.int v, .int v] h2
  exact q_icmp_eq (tgt := 1098) dL_law_1033 (by decide) (fun _ => kk) (fun q => absurd rfl q)
set_option maxRecDepth 100000 in
set_option maxHeartbeats 4000000 in
theorem law_c31 {l : Launch} {g : qG} {ce sl : Nat} {i : Int32} {h h1 h2 : qH} {v : Int32} {fs fs2 : List Value} (hv1 : vp_in (i + (1 : Int32)) g.2.2.2.2.2.1) (hv2 : vp_in (i + (2 : Int32)) g.2.2.2.2.2.1) (hv3 : vp_in (i + (3 : Int32)) g.2.2.2.2.2.1) (hv4 : vp_in (i + (4 : Int32)) g.2.2.2.2.2.1) (hce : ce ≤ 600000) (hsl : sl ≤ 7302250) (hx : h[0]? = some (.inr (.inr (11, fs)))) (hm : h1[61]? = some (.inr (.inr (12, fs2)))) (e1 : FX11_status 0 (lx g (i + (1 : Int32))) h = some (v, h1)) (e2 : FX12_status 61 (lx g (i + (1 : Int32))) h1 = some (v, h2)) (kk : qV l g mL_law 2048 0 600000 7302250 ce sl qZl 1098 [(0, .ref 1000300), (1, .ref 0), (2, .ref 61), (3, .int i)] [] h2) : qV l g mL_law 2048 0 600000 7302250 ce sl qZl 1038 [(0, .ref 1000300), (1, .ref 0), (2, .ref 61), (3, .int i)] [] h := by
  refine q_aload_n dL_law_1038 rfl ?_
  refine q_aload_n dL_law_1039 rfl ?_
  refine q_iload_n dL_law_1040 rfl ?_
  refine q_iconst (v := 1) dL_law_1041 (by decide) ?_
  refine q_iadd dL_law_1042 ?_
  refine q_sld dL_law_1043 hv1 ?_
  refine q_virt (as := [.int (lx g (i + (1 : Int32)))]) (rest := []) dL_law_1044 vL_146 hx (CX11_status _ _ h v h1 e1) (Nat.le_of_ble_eq_true rfl) ⟨hce, hsl⟩ (fun w y hy _ => ?_)
  rw [hy.1, hy.2]
  show qV l g mL_law 2048 0 600000 7302250 ce sl qZl 1047 [(0, .ref 1000300), (1, .ref 0), (2, .ref 61), (3, .int i)] [.int v] h1
  refine q_aload_n dL_law_1047 rfl ?_
  refine q_aload_n dL_law_1048 rfl ?_
  refine q_iload_n dL_law_1049 rfl ?_
  refine q_iconst (v := 1) dL_law_1050 (by decide) ?_
  refine q_iadd dL_law_1051 ?_
  refine q_sld dL_law_1052 hv1 ?_
  refine q_virt (as := [.int (lx g (i + (1 : Int32)))]) (rest := [.int v]) dL_law_1053 vL_149 hm (CX12_status _ _ h1 v h2 e2) (Nat.le_of_ble_eq_true rfl) ⟨hce, hsl⟩ (fun w y hy _ => ?_)
  rw [hy.1, hy.2]
  show qV l g mL_law 2048 0 600000 7302250 ce sl qZl 1056 [(0, .ref 1000300), (1, .ref 0), (2, .ref 61), (3, .int i)] [.int v, .int v] h2
  exact q_icmp_eq (tgt := 1098) dL_law_1056 (by decide) (fun _ => kk) (fun q => absurd rfl q)
set_option maxRecDepth 100000 in
set_option maxHeartbeats 4000000 in
theorem law_c32 {l : Launch} {g : qG} {ce sl : Nat} {i : Int32} {h h1 h2 : qH} {v : Int32} {fs fs2 : List Value} (hv1 : vp_in (i + (1 : Int32)) g.2.2.2.2.2.1) (hv2 : vp_in (i + (2 : Int32)) g.2.2.2.2.2.1) (hv3 : vp_in (i + (3 : Int32)) g.2.2.2.2.2.1) (hv4 : vp_in (i + (4 : Int32)) g.2.2.2.2.2.1) (hce : ce ≤ 600000) (hsl : sl ≤ 7302250) (hx : h[0]? = some (.inr (.inr (11, fs)))) (hm : h1[61]? = some (.inr (.inr (12, fs2)))) (e1 : FX11_count 0 (lx g (i + (1 : Int32))) h = some (v, h1)) (e2 : FX12_count 61 (lx g (i + (1 : Int32))) h1 = some (v, h2)) (kk : qV l g mL_law 2048 0 600000 7302250 ce sl qZl 1098 [(0, .ref 1000300), (1, .ref 0), (2, .ref 61), (3, .int i)] [] h2) : qV l g mL_law 2048 0 600000 7302250 ce sl qZl 1061 [(0, .ref 1000300), (1, .ref 0), (2, .ref 61), (3, .int i)] [] h := by
  refine q_aload_n dL_law_1061 rfl ?_
  refine q_aload_n dL_law_1062 rfl ?_
  refine q_iload_n dL_law_1063 rfl ?_
  refine q_iconst (v := 1) dL_law_1064 (by decide) ?_
  refine q_iadd dL_law_1065 ?_
  refine q_sld dL_law_1066 hv1 ?_
  refine q_virt (as := [.int (lx g (i + (1 : Int32)))]) (rest := []) dL_law_1067 vL_150 hx (CX11_count _ _ h v h1 e1) (Nat.le_of_ble_eq_true rfl) ⟨hce, hsl⟩ (fun w y hy _ => ?_)
  rw [hy.1, hy.2]
  show qV l g mL_law 2048 0 600000 7302250 ce sl qZl 1070 [(0, .ref 1000300), (1, .ref 0), (2, .ref 61), (3, .int i)] [.int v] h1
  refine q_aload_n dL_law_1070 rfl ?_
  refine q_aload_n dL_law_1071 rfl ?_
  refine q_iload_n dL_law_1072 rfl ?_
  refine q_iconst (v := 1) dL_law_1073 (by decide) ?_
  refine q_iadd dL_law_1074 ?_
  refine q_sld dL_law_1075 hv1 ?_
  refine q_virt (as := [.int (lx g (i + (1 : Int32)))]) (rest := [.int v]) dL_law_1076 vL_153 hm (CX12_count _ _ h1 v h2 e2) (Nat.le_of_ble_eq_true rfl) ⟨hce, hsl⟩ (fun w y hy _ => ?_)
  rw [hy.1, hy.2]
  show qV l g mL_law 2048 0 600000 7302250 ce sl qZl 1079 [(0, .ref 1000300), (1, .ref 0), (2, .ref 61), (3, .int i)] [.int v, .int v] h2
  exact q_icmp_eq (tgt := 1098) dL_law_1079 (by decide) (fun _ => kk) (fun q => absurd rfl q)
set_option maxRecDepth 100000 in
set_option maxHeartbeats 4000000 in
theorem law_c33 {l : Launch} {g : qG} {ce sl : Nat} {i : Int32} {h h1 h2 : qH} {v : Int64} {fs fs2 : List Value} (hv1 : vp_in (i + (1 : Int32)) g.2.2.2.2.2.1) (hv2 : vp_in (i + (2 : Int32)) g.2.2.2.2.2.1) (hv3 : vp_in (i + (3 : Int32)) g.2.2.2.2.2.1) (hv4 : vp_in (i + (4 : Int32)) g.2.2.2.2.2.1) (hce : ce ≤ 600000) (hsl : sl ≤ 7302250) (hx : h[0]? = some (.inr (.inr (11, fs)))) (hm : h1[61]? = some (.inr (.inr (12, fs2)))) (e1 : FX11_digest 0  h = some (v, h1)) (e2 : FX12_digest 61  h1 = some (v, h2)) (kk : qV l g mL_law 2048 0 600000 7302250 ce sl qZl 1098 [(0, .ref 1000300), (1, .ref 0), (2, .ref 61), (3, .int i)] [] h2) : qV l g mL_law 2048 0 600000 7302250 ce sl qZl 1084 [(0, .ref 1000300), (1, .ref 0), (2, .ref 61), (3, .int i)] [] h := by
  refine q_aload_n dL_law_1084 rfl ?_
  refine q_virt (as := []) (rest := []) dL_law_1085 vL_154 hx (CX11_digest _ h v h1 e1) (Nat.le_of_ble_eq_true rfl) ⟨hce, hsl⟩ (fun w y hy _ => ?_)
  rw [hy.1, hy.2]
  show qV l g mL_law 2048 0 600000 7302250 ce sl qZl 1088 [(0, .ref 1000300), (1, .ref 0), (2, .ref 61), (3, .int i)] [.long v] h1
  refine q_aload_n dL_law_1088 rfl ?_
  refine q_virt (as := []) (rest := [.long v]) dL_law_1089 vL_158 hm (CX12_digest _ h1 v h2 e2) (Nat.le_of_ble_eq_true rfl) ⟨hce, hsl⟩ (fun w y hy _ => ?_)
  rw [hy.1, hy.2]
  show qV l g mL_law 2048 0 600000 7302250 ce sl qZl 1092 [(0, .ref 1000300), (1, .ref 0), (2, .ref 61), (3, .int i)] [.long v, .long v] h2
  refine q_lcmp dL_law_1092 ?_
  exact q_if_eq (tgt := 1098) dL_law_1093 (by decide) (fun _ => kk) (fun q => absurd (lg_cmp_self v) q)

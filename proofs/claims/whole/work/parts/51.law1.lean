/-! ===== the law's body over the contracts: a case of its switch a row ===== -/
def lAmb (p : Program) (s : State) (m : MethodId) (args : Array Value) (meth : Method) (c : Code) (g : hG) (b L : Nat) (xs : Nat → Int32) : Prop :=
  p.tables.exec = Jvm.exec ∧ c.code = code ∧ c.maxLocals = 4 ∧ s.vm.findClass RL = some m.cls ∧ (∀ w ∈ UW, w.before args s = true) ∧ KK g s ∧ va_X b L xs s s.heap ∧ b < g.1 ∧ g.1 = s.heap.size ∧ L ≤ 3072 ∧ meth.sig.returnType = ret ∧ meth.locks = false
/-- one call of both: they answer alike, and are in step behind it -/
def hwS {α : Type} (Rel : Mm → Prop) (f m : Mm → Option (α × Mm)) : Prop := ∀ u, Rel u → ∃ r u1 u2, f u = some (r, u1) ∧ (mK u1 45).1 = 9 ∧ m u1 = some (r, u2) ∧ Rel u2
section LAWS
variable {p : Program} {lch : Launch} {e : Env} {s : State} {m : MethodId} {args : Array Value} {below : List Frame} {meth : Method} {c : Code} {H : Heap} {locs : List Loc} {cells slots : Nat} {Q : State → Prop} {pc : Nat} {ls : Array Slot} {rest : List Value} {g : hG} {b L : Nat} {xs : Nat → Int32} {u u' : Mm}
theorem L_callV {Y' : MI} {d' mc ms n idx o ci : Nat} {as : List Value} {v : Option Value} (A : lAmb p s m args meth c g b L xs) (I : hInv g s u H locs) (hsz : ls.size = 4) (hM : Ev d' Y' mc ms (.ref o :: as) u (v, u')) (hd : decode code pc = .ok (.invokevirtual idx, 3)) (hm : hMeth Y' n) (hv : hVirt Y' ci) (hlk : Cond.methodLink RL idx Y'.1 ∈ UW) (hko : (mK u o).1 = ci) (hn : as.length = n) (h8 : (rest.map fun v => v.category).sum ≤ 8) (hdd : d' ≤ 200) (hc : cells + mc ≤ 600000) (hs : slots + ms ≤ 7302250)
    (kk : ∀ (H1 : Heap) (locs1 : List Loc), hInv g s u' H1 locs1 → W p lch e room_1 s m args below meth c H1 locs1 (cells + mc) (slots + ms) Q (F0 m (pc + 3) ls ((v.map (cv g.1)).toList ++ rest))) : W p lch e room_1 s m args below meth c H locs cells slots Q (F0 m pc ls ((as.map (cv g.1)).reverse ++ .ref (g.1 + o) :: rest)) := by
  obtain ⟨hx, hb, hml, hown, hts, hK, hX, hbg, hg, hL, hr, hlocks⟩ := A
  have h64 := hm.2.2.2.2
  obtain ⟨T0, N0, hcl⟩ := hv.2.2.1
  have hrc : ∃ cellB : Cell, H[g.1 + o]? = some cellB ∧ cellB.vm.isStatics = false ∧ s.vm.findClass Y'.1.cls = some cellB.cls := by
    obtain ⟨cell, q1, q2, q3, -⟩ := I.1.obj (mK_eta hko) hv.2.2.2
    exact ⟨cell, q1, by rw [q3]; rfl, by rw [q2]; exact (hK.1.1 ci _ hcl).2.1⟩
  have hr := va_runV (p := p) (l := lch) (e := e) (R := room_1) (below := below) (meth := meth) (locs := locs) (cells := cells) (slots := slots) (g := F0 m pc ls ((as.map (cv g.1)).reverse ++ .ref (g.1 + o) :: rest)) (rest := rest) (Ts := UW) (n := n) (C := Y'.1.cls) (bytes := Y'.2.1) (maxL := Y'.2.2.1) (ret := Y'.2.2.2) (nL := 4) ⟨hx, hb, hml, hown, hts⟩ (hM g lch) ⟨⟨rfl, rfl, (by show d' + 1 ≤ 2048; omega), (by show 8 + (Y'.2.2.1 + 11) + 64 * d' ≤ 84000; omega), hWs_warm hts hm.1, List.mem_cons_self, hts _ hm.1, hts _ hm.2.1, hm.2.2.1, hSig hm.2.2.2.1, hts _ hlk⟩, hts _ hv.1, hts _ hv.2.1⟩ ⟨hPc_blind g u (.ref o :: as), hrc, fun U hU hW => ⟨rfl, by rw [hU]; exact I.1, KK.warm hW (fun q hq => by rw [hU]; exact I.2.1 q hq) hK⟩⟩ rfl (by rw [List.length_map]; exact hn) hsz rfl (lv_room h8) hd ⟨hc, hs⟩
  intro T hT Z
  obtain ⟨v1, st₀, t, T', L', h0, Z', hL', e1, e2, ⟨hv1, hR, hq⟩, stp⟩ := hr T hT Z
  have hv1 : v1 = v.map (cv g.1) := Outcome.returned.inj hv1
  subst hv1
  obtain ⟨t2, a1, b1⟩ := kk T'.heap (locs ++ L') ⟨by rw [e1]; exact hR, fun q hq1 => by rw [e1, hq q hq1, h0]; exact I.2.1 q hq1, fun x hx => by
    rcases List.mem_append.mp hx with h | h
    · exact I.2.2 x h
    · exact hL' x h⟩ T' rfl Z'
  exact ⟨t2, stp t2 a1, b1⟩
theorem L_S (A : lAmb p s m args meth c g b L xs) (I : hInv g s u H locs) : va_S (fun q => g.1 ≤ q) s.heap H locs := ⟨by rw [I.1.1, ← A.2.2.2.2.2.2.2.2.1]; exact Nat.le_add_right _ _, fun q _ h2 => I.2.1 q (Nat.not_le.mp h2), I.2.2⟩
theorem L_ld (A : lAmb p s m args meth c g b L xs) (I : hInv g s u H locs) {i : Int32} (hi : vp_in i L) (hd : decode code pc = .ok (.iaload, 1)) (kk : W p lch e room_1 s m args below meth c H locs cells slots Q (F0 m (pc + 1) ls (.int (xs i.toNatClampNeg) :: rest))) : W p lch e room_1 s m args below meth c H locs cells slots Q (F0 m pc ls (.int i :: .ref b :: rest)) :=
  va_sld (A := fun q => g.1 ≤ q) A.1 A.2.1 A.2.2.2.2.2.2.1 (by rw [← A.2.2.2.2.2.2.2.2.1]; exact A.2.2.2.2.2.2.2.1) (Nat.not_le.mpr A.2.2.2.2.2.2.2.1) (L_S A I) hi hd kk
/-- what stands at the loop's head and behind each case -/
def lHead (p : Program) (lch : Launch) (e : Env) (s : State) (m : MethodId) (args : Array Value) (below : List Frame) (meth : Method) (c : Code) (g : hG) (b k : Nat) (Q : State → Prop) (Rel : Mm → Prop) (pc : Nat) (i : Int32) : Prop :=
  ∀ (u : Mm) (H : Heap) (locs : List Loc) (cells slots : Nat) (ls : Array Slot), cells ≤ 100 + 20 * k → slots ≤ 60000 + 2000 * k → Rel u → hInv g s u H locs → lv_has ls 4 [(0, .ref b), (1, .ref (g.1 + 0)), (2, .ref (g.1 + 45)), (3, .int i)] → W p lch e room_1 s m args below meth c H locs cells slots Q (F0 m pc ls [])

set_option maxRecDepth 100000 in
set_option maxHeartbeats 4000000 in
theorem L_0 {Rel : Mm → Prop} (hR0 : ∀ u, Rel u → (mK u 0).1 = 8) {i : Int32} {k : Nat} (hk : k < 512) (A : lAmb p s m args meth c g b L xs) (h1 : vp_in (i + 1) L) (h2 : vp_in (i + 2) L) (h3 : vp_in (i + 3) L) (hs : ∀ (x1 : Int32) (x2 : Int32) (x3 : Int32), hwS Rel (fun u => fX8_men u 0 x1 x2 x3) (fun u => fX9_men u 45 x1 x2 x3)) (kn : lHead p lch e s m args below meth c g b (k + 1) Q Rel 1383 i) : lHead p lch e s m args below meth c g b k Q Rel 216 i := by
  intro u H locs cells slots ls hc hsl hu I hl
  obtain ⟨r, u1, u2, e1, hk1, e2, hu2⟩ := hs (xs (i + 1).toNatClampNeg) (xs (i + 2).toNatClampNeg) (xs (i + 3).toNatClampNeg) u hu
  have hx := A.1
  have hb := A.2.1
  refine lv_aload_n hx hb dL_law_216 rfl (lv_at hl 1 rfl) ?_
  refine lv_aload_n hx hb dL_law_217 rfl (lv_at hl 0 rfl) ?_
  refine lv_iload_n hx hb dL_law_218 rfl (lv_at hl 3 rfl) ?_
  refine lv_iconst (v := 1) hx hb dL_law_219 (by decide) ?_
  refine lv_iadd hx hb dL_law_220 ?_
  refine L_ld A I h1 dL_law_221 ?_
  refine lv_aload_n hx hb dL_law_222 rfl (lv_at hl 0 rfl) ?_
  refine lv_iload_n hx hb dL_law_223 rfl (lv_at hl 3 rfl) ?_
  refine lv_iconst (v := 2) hx hb dL_law_224 (by decide) ?_
  refine lv_iadd hx hb dL_law_225 ?_
  refine L_ld A I h2 dL_law_226 ?_
  refine lv_aload_n hx hb dL_law_227 rfl (lv_at hl 0 rfl) ?_
  refine lv_iload_n hx hb dL_law_228 rfl (lv_at hl 3 rfl) ?_
  refine lv_iconst (v := 3) hx hb dL_law_229 (by decide) ?_
  refine lv_iadd hx hb dL_law_230 ?_
  refine L_ld A I h3 dL_law_231 ?_
  refine L_callV (as := [.int (xs (i + 1).toNatClampNeg), .int (xs (i + 2).toNatClampNeg), .int (xs (i + 3).toNatClampNeg)]) (rest := []) (v := some (.int r)) (u' := u1) (o := 0) A I hl.1 (tX8_men e1) dL_law_232 hm_X8_men hv_X8_men ln_L_13 (hR0 u hu) rfl (Nat.le_of_ble_eq_true rfl) (Nat.le_of_ble_eq_true rfl) (by omega) (by omega) (fun H1 locs1 I1 => ?_)
  refine lv_aload_n hx hb dL_law_235 rfl (lv_at hl 2 rfl) ?_
  refine lv_aload_n hx hb dL_law_236 rfl (lv_at hl 0 rfl) ?_
  refine lv_iload_n hx hb dL_law_237 rfl (lv_at hl 3 rfl) ?_
  refine lv_iconst (v := 1) hx hb dL_law_238 (by decide) ?_
  refine lv_iadd hx hb dL_law_239 ?_
  refine L_ld A I1 h1 dL_law_240 ?_
  refine lv_aload_n hx hb dL_law_241 rfl (lv_at hl 0 rfl) ?_
  refine lv_iload_n hx hb dL_law_242 rfl (lv_at hl 3 rfl) ?_
  refine lv_iconst (v := 2) hx hb dL_law_243 (by decide) ?_
  refine lv_iadd hx hb dL_law_244 ?_
  refine L_ld A I1 h2 dL_law_245 ?_
  refine lv_aload_n hx hb dL_law_246 rfl (lv_at hl 0 rfl) ?_
  refine lv_iload_n hx hb dL_law_247 rfl (lv_at hl 3 rfl) ?_
  refine lv_iconst (v := 3) hx hb dL_law_248 (by decide) ?_
  refine lv_iadd hx hb dL_law_249 ?_
  refine L_ld A I1 h3 dL_law_250 ?_
  refine L_callV (as := [.int (xs (i + 1).toNatClampNeg), .int (xs (i + 2).toNatClampNeg), .int (xs (i + 3).toNatClampNeg)]) (rest := [.int r]) (v := some (.int r)) (u' := u2) (o := 45) A I1 hl.1 (tX9_men e2) dL_law_251 hm_X9_men hv_X9_men ln_L_17 hk1 rfl (Nat.le_of_ble_eq_true rfl) (Nat.le_of_ble_eq_true rfl) (by omega) (by omega) (fun H1 locs1 I1 => ?_)
  refine lv_icmp_eq (tgt := 1383) hx hb dL_law_254 (by decide) (fun _ => ?_) (fun h => absurd rfl h)
  exact kn u2 _ _ _ _ ls (by omega) (by omega) hu2 I1 hl
set_option maxRecDepth 100000 in
set_option maxHeartbeats 4000000 in
theorem L_1 {Rel : Mm → Prop} (hR0 : ∀ u, Rel u → (mK u 0).1 = 8) {i : Int32} {k : Nat} (hk : k < 512) (A : lAmb p s m args meth c g b L xs) (h1 : vp_in (i + 1) L) (h2 : vp_in (i + 2) L) (hs : ∀ (x1 : Int32) (x2 : Int32), hwS Rel (fun u => fX8_at u 0 x1 x2) (fun u => fX9_at u 45 x1 x2)) (kn : lHead p lch e s m args below meth c g b (k + 1) Q Rel 1383 i) : lHead p lch e s m args below meth c g b k Q Rel 259 i := by
  intro u H locs cells slots ls hc hsl hu I hl
  obtain ⟨r, u1, u2, e1, hk1, e2, hu2⟩ := hs (xs (i + 1).toNatClampNeg) (xs (i + 2).toNatClampNeg) u hu
  have hx := A.1
  have hb := A.2.1
  refine lv_aload_n hx hb dL_law_259 rfl (lv_at hl 1 rfl) ?_
  refine lv_aload_n hx hb dL_law_260 rfl (lv_at hl 0 rfl) ?_
  refine lv_iload_n hx hb dL_law_261 rfl (lv_at hl 3 rfl) ?_
  refine lv_iconst (v := 1) hx hb dL_law_262 (by decide) ?_
  refine lv_iadd hx hb dL_law_263 ?_
  refine L_ld A I h1 dL_law_264 ?_
  refine lv_aload_n hx hb dL_law_265 rfl (lv_at hl 0 rfl) ?_
  refine lv_iload_n hx hb dL_law_266 rfl (lv_at hl 3 rfl) ?_
  refine lv_iconst (v := 2) hx hb dL_law_267 (by decide) ?_
  refine lv_iadd hx hb dL_law_268 ?_
  refine L_ld A I h2 dL_law_269 ?_
  refine L_callV (as := [.int (xs (i + 1).toNatClampNeg), .int (xs (i + 2).toNatClampNeg)]) (rest := []) (v := some (.int r)) (u' := u1) (o := 0) A I hl.1 (tX8_at e1) dL_law_270 hm_X8_at hv_X8_at ln_L_18 (hR0 u hu) rfl (Nat.le_of_ble_eq_true rfl) (Nat.le_of_ble_eq_true rfl) (by omega) (by omega) (fun H1 locs1 I1 => ?_)
  refine lv_aload_n hx hb dL_law_273 rfl (lv_at hl 2 rfl) ?_
  refine lv_aload_n hx hb dL_law_274 rfl (lv_at hl 0 rfl) ?_
  refine lv_iload_n hx hb dL_law_275 rfl (lv_at hl 3 rfl) ?_
  refine lv_iconst (v := 1) hx hb dL_law_276 (by decide) ?_
  refine lv_iadd hx hb dL_law_277 ?_
  refine L_ld A I1 h1 dL_law_278 ?_
  refine lv_aload_n hx hb dL_law_279 rfl (lv_at hl 0 rfl) ?_
  refine lv_iload_n hx hb dL_law_280 rfl (lv_at hl 3 rfl) ?_
  refine lv_iconst (v := 2) hx hb dL_law_281 (by decide) ?_
  refine lv_iadd hx hb dL_law_282 ?_
  refine L_ld A I1 h2 dL_law_283 ?_
  refine L_callV (as := [.int (xs (i + 1).toNatClampNeg), .int (xs (i + 2).toNatClampNeg)]) (rest := [.int r]) (v := some (.int r)) (u' := u2) (o := 45) A I1 hl.1 (tX9_at e2) dL_law_284 hm_X9_at hv_X9_at ln_L_22 hk1 rfl (Nat.le_of_ble_eq_true rfl) (Nat.le_of_ble_eq_true rfl) (by omega) (by omega) (fun H1 locs1 I1 => ?_)
  refine lv_icmp_eq (tgt := 1383) hx hb dL_law_287 (by decide) (fun _ => ?_) (fun h => absurd rfl h)
  exact kn u2 _ _ _ _ ls (by omega) (by omega) hu2 I1 hl
set_option maxRecDepth 100000 in
set_option maxHeartbeats 4000000 in
theorem L_2 {Rel : Mm → Prop} (hR0 : ∀ u, Rel u → (mK u 0).1 = 8) {i : Int32} {k : Nat} (hk : k < 512) (A : lAmb p s m args meth c g b L xs) (h1 : vp_in (i + 1) L) (h2 : vp_in (i + 2) L) (hs : ∀ (x1 : Int32) (x2 : Int32), hwS Rel (fun u => fX8_of u 0 x1 x2) (fun u => fX9_of u 45 x1 x2)) (kn : lHead p lch e s m args below meth c g b (k + 1) Q Rel 1383 i) : lHead p lch e s m args below meth c g b k Q Rel 292 i := by
  intro u H locs cells slots ls hc hsl hu I hl
  obtain ⟨r, u1, u2, e1, hk1, e2, hu2⟩ := hs (xs (i + 1).toNatClampNeg) (xs (i + 2).toNatClampNeg) u hu
  have hx := A.1
  have hb := A.2.1
  refine lv_aload_n hx hb dL_law_292 rfl (lv_at hl 1 rfl) ?_
  refine lv_aload_n hx hb dL_law_293 rfl (lv_at hl 0 rfl) ?_
  refine lv_iload_n hx hb dL_law_294 rfl (lv_at hl 3 rfl) ?_
  refine lv_iconst (v := 1) hx hb dL_law_295 (by decide) ?_
  refine lv_iadd hx hb dL_law_296 ?_
  refine L_ld A I h1 dL_law_297 ?_
  refine lv_aload_n hx hb dL_law_298 rfl (lv_at hl 0 rfl) ?_
  refine lv_iload_n hx hb dL_law_299 rfl (lv_at hl 3 rfl) ?_
  refine lv_iconst (v := 2) hx hb dL_law_300 (by decide) ?_
  refine lv_iadd hx hb dL_law_301 ?_
  refine L_ld A I h2 dL_law_302 ?_
  refine L_callV (as := [.int (xs (i + 1).toNatClampNeg), .int (xs (i + 2).toNatClampNeg)]) (rest := []) (v := some (.int r)) (u' := u1) (o := 0) A I hl.1 (tX8_of e1) dL_law_303 hm_X8_of hv_X8_of ln_L_23 (hR0 u hu) rfl (Nat.le_of_ble_eq_true rfl) (Nat.le_of_ble_eq_true rfl) (by omega) (by omega) (fun H1 locs1 I1 => ?_)
  refine lv_aload_n hx hb dL_law_306 rfl (lv_at hl 2 rfl) ?_
  refine lv_aload_n hx hb dL_law_307 rfl (lv_at hl 0 rfl) ?_
  refine lv_iload_n hx hb dL_law_308 rfl (lv_at hl 3 rfl) ?_
  refine lv_iconst (v := 1) hx hb dL_law_309 (by decide) ?_
  refine lv_iadd hx hb dL_law_310 ?_
  refine L_ld A I1 h1 dL_law_311 ?_
  refine lv_aload_n hx hb dL_law_312 rfl (lv_at hl 0 rfl) ?_
  refine lv_iload_n hx hb dL_law_313 rfl (lv_at hl 3 rfl) ?_
  refine lv_iconst (v := 2) hx hb dL_law_314 (by decide) ?_
  refine lv_iadd hx hb dL_law_315 ?_
  refine L_ld A I1 h2 dL_law_316 ?_
  refine L_callV (as := [.int (xs (i + 1).toNatClampNeg), .int (xs (i + 2).toNatClampNeg)]) (rest := [.int r]) (v := some (.int r)) (u' := u2) (o := 45) A I1 hl.1 (tX9_of e2) dL_law_317 hm_X9_of hv_X9_of ln_L_26 hk1 rfl (Nat.le_of_ble_eq_true rfl) (Nat.le_of_ble_eq_true rfl) (by omega) (by omega) (fun H1 locs1 I1 => ?_)
  refine lv_icmp_eq (tgt := 1383) hx hb dL_law_320 (by decide) (fun _ => ?_) (fun h => absurd rfl h)
  exact kn u2 _ _ _ _ ls (by omega) (by omega) hu2 I1 hl
set_option maxRecDepth 100000 in
set_option maxHeartbeats 4000000 in
theorem L_3 {Rel : Mm → Prop} (hR0 : ∀ u, Rel u → (mK u 0).1 = 8) {i : Int32} {k : Nat} (hk : k < 512) (A : lAmb p s m args meth c g b L xs) (h1 : vp_in (i + 1) L) (h2 : vp_in (i + 2) L) (h3 : vp_in (i + 3) L) (h4 : vp_in (i + 4) L) (hs : ∀ (x1 : Int32) (x2 : Int32) (x3 : Int32) (x4 : Int32), hwS Rel (fun u => fX8_sign u 0 x1 x2 x3 x4) (fun u => fX9_sign u 45 x1 x2 x3 x4)) (kn : lHead p lch e s m args below meth c g b (k + 1) Q Rel 1383 i) : lHead p lch e s m args below meth c g b k Q Rel 325 i := by
  intro u H locs cells slots ls hc hsl hu I hl
  obtain ⟨r, u1, u2, e1, hk1, e2, hu2⟩ := hs (xs (i + 1).toNatClampNeg) (xs (i + 2).toNatClampNeg) (xs (i + 3).toNatClampNeg) (xs (i + 4).toNatClampNeg) u hu
  have hx := A.1
  have hb := A.2.1
  refine lv_aload_n hx hb dL_law_325 rfl (lv_at hl 1 rfl) ?_
  refine lv_aload_n hx hb dL_law_326 rfl (lv_at hl 0 rfl) ?_
  refine lv_iload_n hx hb dL_law_327 rfl (lv_at hl 3 rfl) ?_
  refine lv_iconst (v := 1) hx hb dL_law_328 (by decide) ?_
  refine lv_iadd hx hb dL_law_329 ?_
  refine L_ld A I h1 dL_law_330 ?_
  refine lv_aload_n hx hb dL_law_331 rfl (lv_at hl 0 rfl) ?_
  refine lv_iload_n hx hb dL_law_332 rfl (lv_at hl 3 rfl) ?_
  refine lv_iconst (v := 2) hx hb dL_law_333 (by decide) ?_
  refine lv_iadd hx hb dL_law_334 ?_
  refine L_ld A I h2 dL_law_335 ?_
  refine lv_aload_n hx hb dL_law_336 rfl (lv_at hl 0 rfl) ?_
  refine lv_iload_n hx hb dL_law_337 rfl (lv_at hl 3 rfl) ?_
  refine lv_iconst (v := 3) hx hb dL_law_338 (by decide) ?_
  refine lv_iadd hx hb dL_law_339 ?_
  refine L_ld A I h3 dL_law_340 ?_
  refine lv_aload_n hx hb dL_law_341 rfl (lv_at hl 0 rfl) ?_
  refine lv_iload_n hx hb dL_law_342 rfl (lv_at hl 3 rfl) ?_
  refine lv_iconst (v := 4) hx hb dL_law_343 (by decide) ?_
  refine lv_iadd hx hb dL_law_344 ?_
  refine L_ld A I h4 dL_law_345 ?_
  refine L_callV (as := [.int (xs (i + 1).toNatClampNeg), .int (xs (i + 2).toNatClampNeg), .int (xs (i + 3).toNatClampNeg), .int (xs (i + 4).toNatClampNeg)]) (rest := []) (v := some (.int r)) (u' := u1) (o := 0) A I hl.1 (tX8_sign e1) dL_law_346 hm_X8_sign hv_X8_sign ln_L_27 (hR0 u hu) rfl (Nat.le_of_ble_eq_true rfl) (Nat.le_of_ble_eq_true rfl) (by omega) (by omega) (fun H1 locs1 I1 => ?_)
  refine lv_aload_n hx hb dL_law_349 rfl (lv_at hl 2 rfl) ?_
  refine lv_aload_n hx hb dL_law_350 rfl (lv_at hl 0 rfl) ?_
  refine lv_iload_n hx hb dL_law_351 rfl (lv_at hl 3 rfl) ?_
  refine lv_iconst (v := 1) hx hb dL_law_352 (by decide) ?_
  refine lv_iadd hx hb dL_law_353 ?_
  refine L_ld A I1 h1 dL_law_354 ?_
  refine lv_aload_n hx hb dL_law_355 rfl (lv_at hl 0 rfl) ?_
  refine lv_iload_n hx hb dL_law_356 rfl (lv_at hl 3 rfl) ?_
  refine lv_iconst (v := 2) hx hb dL_law_357 (by decide) ?_
  refine lv_iadd hx hb dL_law_358 ?_
  refine L_ld A I1 h2 dL_law_359 ?_
  refine lv_aload_n hx hb dL_law_360 rfl (lv_at hl 0 rfl) ?_
  refine lv_iload_n hx hb dL_law_361 rfl (lv_at hl 3 rfl) ?_
  refine lv_iconst (v := 3) hx hb dL_law_362 (by decide) ?_
  refine lv_iadd hx hb dL_law_363 ?_
  refine L_ld A I1 h3 dL_law_364 ?_
  refine lv_aload_n hx hb dL_law_365 rfl (lv_at hl 0 rfl) ?_
  refine lv_iload_n hx hb dL_law_366 rfl (lv_at hl 3 rfl) ?_
  refine lv_iconst (v := 4) hx hb dL_law_367 (by decide) ?_
  refine lv_iadd hx hb dL_law_368 ?_
  refine L_ld A I1 h4 dL_law_369 ?_
  refine L_callV (as := [.int (xs (i + 1).toNatClampNeg), .int (xs (i + 2).toNatClampNeg), .int (xs (i + 3).toNatClampNeg), .int (xs (i + 4).toNatClampNeg)]) (rest := [.int r]) (v := some (.int r)) (u' := u2) (o := 45) A I1 hl.1 (tX9_sign e2) dL_law_370 hm_X9_sign hv_X9_sign ln_L_31 hk1 rfl (Nat.le_of_ble_eq_true rfl) (Nat.le_of_ble_eq_true rfl) (by omega) (by omega) (fun H1 locs1 I1 => ?_)
  refine lv_icmp_eq (tgt := 1383) hx hb dL_law_373 (by decide) (fun _ => ?_) (fun h => absurd rfl h)
  exact kn u2 _ _ _ _ ls (by omega) (by omega) hu2 I1 hl
set_option maxRecDepth 100000 in
set_option maxHeartbeats 4000000 in
theorem L_4 {Rel : Mm → Prop} (hR0 : ∀ u, Rel u → (mK u 0).1 = 8) {i : Int32} {k : Nat} (hk : k < 512) (A : lAmb p s m args meth c g b L xs) (h1 : vp_in (i + 1) L) (h2 : vp_in (i + 2) L) (h3 : vp_in (i + 3) L) (hs : ∀ (x1 : Int32) (x2 : Int32) (x3 : Int32), hwS Rel (fun u => fX8_reads u 0 x1 x2 x3) (fun u => fX9_reads u 45 x1 x2 x3)) (kn : lHead p lch e s m args below meth c g b (k + 1) Q Rel 1383 i) : lHead p lch e s m args below meth c g b k Q Rel 378 i := by
  intro u H locs cells slots ls hc hsl hu I hl
  obtain ⟨r, u1, u2, e1, hk1, e2, hu2⟩ := hs (xs (i + 1).toNatClampNeg) (xs (i + 2).toNatClampNeg) (xs (i + 3).toNatClampNeg) u hu
  have hx := A.1
  have hb := A.2.1
  refine lv_aload_n hx hb dL_law_378 rfl (lv_at hl 1 rfl) ?_
  refine lv_aload_n hx hb dL_law_379 rfl (lv_at hl 0 rfl) ?_
  refine lv_iload_n hx hb dL_law_380 rfl (lv_at hl 3 rfl) ?_
  refine lv_iconst (v := 1) hx hb dL_law_381 (by decide) ?_
  refine lv_iadd hx hb dL_law_382 ?_
  refine L_ld A I h1 dL_law_383 ?_
  refine lv_aload_n hx hb dL_law_384 rfl (lv_at hl 0 rfl) ?_
  refine lv_iload_n hx hb dL_law_385 rfl (lv_at hl 3 rfl) ?_
  refine lv_iconst (v := 2) hx hb dL_law_386 (by decide) ?_
  refine lv_iadd hx hb dL_law_387 ?_
  refine L_ld A I h2 dL_law_388 ?_
  refine lv_aload_n hx hb dL_law_389 rfl (lv_at hl 0 rfl) ?_
  refine lv_iload_n hx hb dL_law_390 rfl (lv_at hl 3 rfl) ?_
  refine lv_iconst (v := 3) hx hb dL_law_391 (by decide) ?_
  refine lv_iadd hx hb dL_law_392 ?_
  refine L_ld A I h3 dL_law_393 ?_
  refine L_callV (as := [.int (xs (i + 1).toNatClampNeg), .int (xs (i + 2).toNatClampNeg), .int (xs (i + 3).toNatClampNeg)]) (rest := []) (v := some (.int r)) (u' := u1) (o := 0) A I hl.1 (tX8_reads e1) dL_law_394 hm_X8_reads hv_X8_reads ln_L_32 (hR0 u hu) rfl (Nat.le_of_ble_eq_true rfl) (Nat.le_of_ble_eq_true rfl) (by omega) (by omega) (fun H1 locs1 I1 => ?_)
  refine lv_aload_n hx hb dL_law_397 rfl (lv_at hl 2 rfl) ?_
  refine lv_aload_n hx hb dL_law_398 rfl (lv_at hl 0 rfl) ?_
  refine lv_iload_n hx hb dL_law_399 rfl (lv_at hl 3 rfl) ?_
  refine lv_iconst (v := 1) hx hb dL_law_400 (by decide) ?_
  refine lv_iadd hx hb dL_law_401 ?_
  refine L_ld A I1 h1 dL_law_402 ?_
  refine lv_aload_n hx hb dL_law_403 rfl (lv_at hl 0 rfl) ?_
  refine lv_iload_n hx hb dL_law_404 rfl (lv_at hl 3 rfl) ?_
  refine lv_iconst (v := 2) hx hb dL_law_405 (by decide) ?_
  refine lv_iadd hx hb dL_law_406 ?_
  refine L_ld A I1 h2 dL_law_407 ?_
  refine lv_aload_n hx hb dL_law_408 rfl (lv_at hl 0 rfl) ?_
  refine lv_iload_n hx hb dL_law_409 rfl (lv_at hl 3 rfl) ?_
  refine lv_iconst (v := 3) hx hb dL_law_410 (by decide) ?_
  refine lv_iadd hx hb dL_law_411 ?_
  refine L_ld A I1 h3 dL_law_412 ?_
  refine L_callV (as := [.int (xs (i + 1).toNatClampNeg), .int (xs (i + 2).toNatClampNeg), .int (xs (i + 3).toNatClampNeg)]) (rest := [.int r]) (v := some (.int r)) (u' := u2) (o := 45) A I1 hl.1 (tX9_reads e2) dL_law_413 hm_X9_reads hv_X9_reads ln_L_35 hk1 rfl (Nat.le_of_ble_eq_true rfl) (Nat.le_of_ble_eq_true rfl) (by omega) (by omega) (fun H1 locs1 I1 => ?_)
  refine lv_icmp_eq (tgt := 1383) hx hb dL_law_416 (by decide) (fun _ => ?_) (fun h => absurd rfl h)
  exact kn u2 _ _ _ _ ls (by omega) (by omega) hu2 I1 hl
set_option maxRecDepth 100000 in
set_option maxHeartbeats 4000000 in
theorem L_5 {Rel : Mm → Prop} (hR0 : ∀ u, Rel u → (mK u 0).1 = 8) {i : Int32} {k : Nat} (hk : k < 512) (A : lAmb p s m args meth c g b L xs) (h1 : vp_in (i + 1) L) (h2 : vp_in (i + 2) L) (h3 : vp_in (i + 3) L) (h4 : vp_in (i + 4) L) (hs : ∀ (x1 : Int32) (x2 : Int32) (x3 : Int32) (x4 : Int32), hwS Rel (fun u => fX8_word u 0 x1 x2 x3 x4) (fun u => fX9_word u 45 x1 x2 x3 x4)) (kn : lHead p lch e s m args below meth c g b (k + 1) Q Rel 1383 i) : lHead p lch e s m args below meth c g b k Q Rel 421 i := by
  intro u H locs cells slots ls hc hsl hu I hl
  obtain ⟨r, u1, u2, e1, hk1, e2, hu2⟩ := hs (xs (i + 1).toNatClampNeg) (xs (i + 2).toNatClampNeg) (xs (i + 3).toNatClampNeg) (xs (i + 4).toNatClampNeg) u hu
  have hx := A.1
  have hb := A.2.1
  refine lv_aload_n hx hb dL_law_421 rfl (lv_at hl 1 rfl) ?_
  refine lv_aload_n hx hb dL_law_422 rfl (lv_at hl 0 rfl) ?_
  refine lv_iload_n hx hb dL_law_423 rfl (lv_at hl 3 rfl) ?_
  refine lv_iconst (v := 1) hx hb dL_law_424 (by decide) ?_
  refine lv_iadd hx hb dL_law_425 ?_
  refine L_ld A I h1 dL_law_426 ?_
  refine lv_aload_n hx hb dL_law_427 rfl (lv_at hl 0 rfl) ?_
  refine lv_iload_n hx hb dL_law_428 rfl (lv_at hl 3 rfl) ?_
  refine lv_iconst (v := 2) hx hb dL_law_429 (by decide) ?_
  refine lv_iadd hx hb dL_law_430 ?_
  refine L_ld A I h2 dL_law_431 ?_
  refine lv_aload_n hx hb dL_law_432 rfl (lv_at hl 0 rfl) ?_
  refine lv_iload_n hx hb dL_law_433 rfl (lv_at hl 3 rfl) ?_
  refine lv_iconst (v := 3) hx hb dL_law_434 (by decide) ?_
  refine lv_iadd hx hb dL_law_435 ?_
  refine L_ld A I h3 dL_law_436 ?_
  refine lv_aload_n hx hb dL_law_437 rfl (lv_at hl 0 rfl) ?_
  refine lv_iload_n hx hb dL_law_438 rfl (lv_at hl 3 rfl) ?_
  refine lv_iconst (v := 4) hx hb dL_law_439 (by decide) ?_
  refine lv_iadd hx hb dL_law_440 ?_
  refine L_ld A I h4 dL_law_441 ?_
  refine L_callV (as := [.int (xs (i + 1).toNatClampNeg), .int (xs (i + 2).toNatClampNeg), .int (xs (i + 3).toNatClampNeg), .int (xs (i + 4).toNatClampNeg)]) (rest := []) (v := some (.int r)) (u' := u1) (o := 0) A I hl.1 (tX8_word e1) dL_law_442 hm_X8_word hv_X8_word ln_L_36 (hR0 u hu) rfl (Nat.le_of_ble_eq_true rfl) (Nat.le_of_ble_eq_true rfl) (by omega) (by omega) (fun H1 locs1 I1 => ?_)
  refine lv_aload_n hx hb dL_law_445 rfl (lv_at hl 2 rfl) ?_
  refine lv_aload_n hx hb dL_law_446 rfl (lv_at hl 0 rfl) ?_
  refine lv_iload_n hx hb dL_law_447 rfl (lv_at hl 3 rfl) ?_
  refine lv_iconst (v := 1) hx hb dL_law_448 (by decide) ?_
  refine lv_iadd hx hb dL_law_449 ?_
  refine L_ld A I1 h1 dL_law_450 ?_
  refine lv_aload_n hx hb dL_law_451 rfl (lv_at hl 0 rfl) ?_
  refine lv_iload_n hx hb dL_law_452 rfl (lv_at hl 3 rfl) ?_
  refine lv_iconst (v := 2) hx hb dL_law_453 (by decide) ?_
  refine lv_iadd hx hb dL_law_454 ?_
  refine L_ld A I1 h2 dL_law_455 ?_
  refine lv_aload_n hx hb dL_law_456 rfl (lv_at hl 0 rfl) ?_
  refine lv_iload_n hx hb dL_law_457 rfl (lv_at hl 3 rfl) ?_
  refine lv_iconst (v := 3) hx hb dL_law_458 (by decide) ?_
  refine lv_iadd hx hb dL_law_459 ?_
  refine L_ld A I1 h3 dL_law_460 ?_
  refine lv_aload_n hx hb dL_law_461 rfl (lv_at hl 0 rfl) ?_
  refine lv_iload_n hx hb dL_law_462 rfl (lv_at hl 3 rfl) ?_
  refine lv_iconst (v := 4) hx hb dL_law_463 (by decide) ?_
  refine lv_iadd hx hb dL_law_464 ?_
  refine L_ld A I1 h4 dL_law_465 ?_
  refine L_callV (as := [.int (xs (i + 1).toNatClampNeg), .int (xs (i + 2).toNatClampNeg), .int (xs (i + 3).toNatClampNeg), .int (xs (i + 4).toNatClampNeg)]) (rest := [.int r]) (v := some (.int r)) (u' := u2) (o := 45) A I1 hl.1 (tX9_word e2) dL_law_466 hm_X9_word hv_X9_word ln_L_39 hk1 rfl (Nat.le_of_ble_eq_true rfl) (Nat.le_of_ble_eq_true rfl) (by omega) (by omega) (fun H1 locs1 I1 => ?_)
  refine lv_icmp_eq (tgt := 1383) hx hb dL_law_469 (by decide) (fun _ => ?_) (fun h => absurd rfl h)
  exact kn u2 _ _ _ _ ls (by omega) (by omega) hu2 I1 hl
set_option maxRecDepth 100000 in
set_option maxHeartbeats 4000000 in
theorem L_6 {Rel : Mm → Prop} (hR0 : ∀ u, Rel u → (mK u 0).1 = 8) {i : Int32} {k : Nat} (hk : k < 512) (A : lAmb p s m args meth c g b L xs) (h1 : vp_in (i + 1) L) (h2 : vp_in (i + 2) L) (hs : ∀ (x1 : Int32) (x2 : Int32), hwS Rel (fun u => fX8_terms u 0 x1 x2) (fun u => fX9_terms u 45 x1 x2)) (kn : lHead p lch e s m args below meth c g b (k + 1) Q Rel 1383 i) : lHead p lch e s m args below meth c g b k Q Rel 474 i := by
  intro u H locs cells slots ls hc hsl hu I hl
  obtain ⟨r, u1, u2, e1, hk1, e2, hu2⟩ := hs (xs (i + 1).toNatClampNeg) (xs (i + 2).toNatClampNeg) u hu
  have hx := A.1
  have hb := A.2.1
  refine lv_aload_n hx hb dL_law_474 rfl (lv_at hl 1 rfl) ?_
  refine lv_aload_n hx hb dL_law_475 rfl (lv_at hl 0 rfl) ?_
  refine lv_iload_n hx hb dL_law_476 rfl (lv_at hl 3 rfl) ?_
  refine lv_iconst (v := 1) hx hb dL_law_477 (by decide) ?_
  refine lv_iadd hx hb dL_law_478 ?_
  refine L_ld A I h1 dL_law_479 ?_
  refine lv_aload_n hx hb dL_law_480 rfl (lv_at hl 0 rfl) ?_
  refine lv_iload_n hx hb dL_law_481 rfl (lv_at hl 3 rfl) ?_
  refine lv_iconst (v := 2) hx hb dL_law_482 (by decide) ?_
  refine lv_iadd hx hb dL_law_483 ?_
  refine L_ld A I h2 dL_law_484 ?_
  refine L_callV (as := [.int (xs (i + 1).toNatClampNeg), .int (xs (i + 2).toNatClampNeg)]) (rest := []) (v := some (.int r)) (u' := u1) (o := 0) A I hl.1 (tX8_terms e1) dL_law_485 hm_X8_terms hv_X8_terms ln_L_40 (hR0 u hu) rfl (Nat.le_of_ble_eq_true rfl) (Nat.le_of_ble_eq_true rfl) (by omega) (by omega) (fun H1 locs1 I1 => ?_)
  refine lv_aload_n hx hb dL_law_488 rfl (lv_at hl 2 rfl) ?_
  refine lv_aload_n hx hb dL_law_489 rfl (lv_at hl 0 rfl) ?_
  refine lv_iload_n hx hb dL_law_490 rfl (lv_at hl 3 rfl) ?_
  refine lv_iconst (v := 1) hx hb dL_law_491 (by decide) ?_
  refine lv_iadd hx hb dL_law_492 ?_
  refine L_ld A I1 h1 dL_law_493 ?_
  refine lv_aload_n hx hb dL_law_494 rfl (lv_at hl 0 rfl) ?_
  refine lv_iload_n hx hb dL_law_495 rfl (lv_at hl 3 rfl) ?_
  refine lv_iconst (v := 2) hx hb dL_law_496 (by decide) ?_
  refine lv_iadd hx hb dL_law_497 ?_
  refine L_ld A I1 h2 dL_law_498 ?_
  refine L_callV (as := [.int (xs (i + 1).toNatClampNeg), .int (xs (i + 2).toNatClampNeg)]) (rest := [.int r]) (v := some (.int r)) (u' := u2) (o := 45) A I1 hl.1 (tX9_terms e2) dL_law_499 hm_X9_terms hv_X9_terms ln_L_43 hk1 rfl (Nat.le_of_ble_eq_true rfl) (Nat.le_of_ble_eq_true rfl) (by omega) (by omega) (fun H1 locs1 I1 => ?_)
  refine lv_icmp_eq (tgt := 1383) hx hb dL_law_502 (by decide) (fun _ => ?_) (fun h => absurd rfl h)
  exact kn u2 _ _ _ _ ls (by omega) (by omega) hu2 I1 hl
set_option maxRecDepth 100000 in
set_option maxHeartbeats 4000000 in
theorem L_7 {Rel : Mm → Prop} (hR0 : ∀ u, Rel u → (mK u 0).1 = 8) {i : Int32} {k : Nat} (hk : k < 512) (A : lAmb p s m args meth c g b L xs) (h1 : vp_in (i + 1) L) (h2 : vp_in (i + 2) L) (h3 : vp_in (i + 3) L) (h4 : vp_in (i + 4) L) (h5 : vp_in (i + 5) L) (hs : ∀ (x1 : Int32) (x2 : Int32) (x3 : Int32) (x4 : Int32) (x5 : Int32), hwS Rel (fun u => fX8_feed u 0 x1 x2 x3 x4 x5) (fun u => fX9_feed u 45 x1 x2 x3 x4 x5)) (kn : lHead p lch e s m args below meth c g b (k + 1) Q Rel 1383 i) : lHead p lch e s m args below meth c g b k Q Rel 507 i := by
  intro u H locs cells slots ls hc hsl hu I hl
  obtain ⟨r, u1, u2, e1, hk1, e2, hu2⟩ := hs (xs (i + 1).toNatClampNeg) (xs (i + 2).toNatClampNeg) (xs (i + 3).toNatClampNeg) (xs (i + 4).toNatClampNeg) (xs (i + 5).toNatClampNeg) u hu
  have hx := A.1
  have hb := A.2.1
  refine lv_aload_n hx hb dL_law_507 rfl (lv_at hl 1 rfl) ?_
  refine lv_aload_n hx hb dL_law_508 rfl (lv_at hl 0 rfl) ?_
  refine lv_iload_n hx hb dL_law_509 rfl (lv_at hl 3 rfl) ?_
  refine lv_iconst (v := 1) hx hb dL_law_510 (by decide) ?_
  refine lv_iadd hx hb dL_law_511 ?_
  refine L_ld A I h1 dL_law_512 ?_
  refine lv_aload_n hx hb dL_law_513 rfl (lv_at hl 0 rfl) ?_
  refine lv_iload_n hx hb dL_law_514 rfl (lv_at hl 3 rfl) ?_
  refine lv_iconst (v := 2) hx hb dL_law_515 (by decide) ?_
  refine lv_iadd hx hb dL_law_516 ?_
  refine L_ld A I h2 dL_law_517 ?_
  refine lv_aload_n hx hb dL_law_518 rfl (lv_at hl 0 rfl) ?_
  refine lv_iload_n hx hb dL_law_519 rfl (lv_at hl 3 rfl) ?_
  refine lv_iconst (v := 3) hx hb dL_law_520 (by decide) ?_
  refine lv_iadd hx hb dL_law_521 ?_
  refine L_ld A I h3 dL_law_522 ?_
  refine lv_aload_n hx hb dL_law_523 rfl (lv_at hl 0 rfl) ?_
  refine lv_iload_n hx hb dL_law_524 rfl (lv_at hl 3 rfl) ?_
  refine lv_iconst (v := 4) hx hb dL_law_525 (by decide) ?_
  refine lv_iadd hx hb dL_law_526 ?_
  refine L_ld A I h4 dL_law_527 ?_
  refine lv_aload_n hx hb dL_law_528 rfl (lv_at hl 0 rfl) ?_
  refine lv_iload_n hx hb dL_law_529 rfl (lv_at hl 3 rfl) ?_
  refine lv_iconst (v := 5) hx hb dL_law_530 (by decide) ?_
  refine lv_iadd hx hb dL_law_531 ?_
  refine L_ld A I h5 dL_law_532 ?_
  refine L_callV (as := [.int (xs (i + 1).toNatClampNeg), .int (xs (i + 2).toNatClampNeg), .int (xs (i + 3).toNatClampNeg), .int (xs (i + 4).toNatClampNeg), .int (xs (i + 5).toNatClampNeg)]) (rest := []) (v := some (.int r)) (u' := u1) (o := 0) A I hl.1 (tX8_feed e1) dL_law_533 hm_X8_feed hv_X8_feed ln_L_44 (hR0 u hu) rfl (Nat.le_of_ble_eq_true rfl) (Nat.le_of_ble_eq_true rfl) (by omega) (by omega) (fun H1 locs1 I1 => ?_)
  refine lv_aload_n hx hb dL_law_536 rfl (lv_at hl 2 rfl) ?_
  refine lv_aload_n hx hb dL_law_537 rfl (lv_at hl 0 rfl) ?_
  refine lv_iload_n hx hb dL_law_538 rfl (lv_at hl 3 rfl) ?_
  refine lv_iconst (v := 1) hx hb dL_law_539 (by decide) ?_
  refine lv_iadd hx hb dL_law_540 ?_
  refine L_ld A I1 h1 dL_law_541 ?_
  refine lv_aload_n hx hb dL_law_542 rfl (lv_at hl 0 rfl) ?_
  refine lv_iload_n hx hb dL_law_543 rfl (lv_at hl 3 rfl) ?_
  refine lv_iconst (v := 2) hx hb dL_law_544 (by decide) ?_
  refine lv_iadd hx hb dL_law_545 ?_
  refine L_ld A I1 h2 dL_law_546 ?_
  refine lv_aload_n hx hb dL_law_547 rfl (lv_at hl 0 rfl) ?_
  refine lv_iload_n hx hb dL_law_548 rfl (lv_at hl 3 rfl) ?_
  refine lv_iconst (v := 3) hx hb dL_law_549 (by decide) ?_
  refine lv_iadd hx hb dL_law_550 ?_
  refine L_ld A I1 h3 dL_law_551 ?_
  refine lv_aload_n hx hb dL_law_552 rfl (lv_at hl 0 rfl) ?_
  refine lv_iload_n hx hb dL_law_553 rfl (lv_at hl 3 rfl) ?_
  refine lv_iconst (v := 4) hx hb dL_law_554 (by decide) ?_
  refine lv_iadd hx hb dL_law_555 ?_
  refine L_ld A I1 h4 dL_law_556 ?_
  refine lv_aload_n hx hb dL_law_557 rfl (lv_at hl 0 rfl) ?_
  refine lv_iload_n hx hb dL_law_558 rfl (lv_at hl 3 rfl) ?_
  refine lv_iconst (v := 5) hx hb dL_law_559 (by decide) ?_
  refine lv_iadd hx hb dL_law_560 ?_
  refine L_ld A I1 h5 dL_law_561 ?_
  refine L_callV (as := [.int (xs (i + 1).toNatClampNeg), .int (xs (i + 2).toNatClampNeg), .int (xs (i + 3).toNatClampNeg), .int (xs (i + 4).toNatClampNeg), .int (xs (i + 5).toNatClampNeg)]) (rest := [.int r]) (v := some (.int r)) (u' := u2) (o := 45) A I1 hl.1 (tX9_feed e2) dL_law_562 hm_X9_feed hv_X9_feed ln_L_48 hk1 rfl (Nat.le_of_ble_eq_true rfl) (Nat.le_of_ble_eq_true rfl) (by omega) (by omega) (fun H1 locs1 I1 => ?_)
  refine lv_icmp_eq (tgt := 1383) hx hb dL_law_565 (by decide) (fun _ => ?_) (fun h => absurd rfl h)
  exact kn u2 _ _ _ _ ls (by omega) (by omega) hu2 I1 hl
set_option maxRecDepth 100000 in
set_option maxHeartbeats 4000000 in
theorem L_8 {Rel : Mm → Prop} (hR0 : ∀ u, Rel u → (mK u 0).1 = 8) {i : Int32} {k : Nat} (hk : k < 512) (A : lAmb p s m args meth c g b L xs) (h1 : vp_in (i + 1) L) (hs : ∀ (x1 : Int32), hwS Rel (fun u => fX8_end u 0 x1) (fun u => fX9_end u 45 x1)) (kn : lHead p lch e s m args below meth c g b (k + 1) Q Rel 1383 i) : lHead p lch e s m args below meth c g b k Q Rel 570 i := by
  intro u H locs cells slots ls hc hsl hu I hl
  obtain ⟨r, u1, u2, e1, hk1, e2, hu2⟩ := hs (xs (i + 1).toNatClampNeg) u hu
  have hx := A.1
  have hb := A.2.1
  refine lv_aload_n hx hb dL_law_570 rfl (lv_at hl 1 rfl) ?_
  refine lv_aload_n hx hb dL_law_571 rfl (lv_at hl 0 rfl) ?_
  refine lv_iload_n hx hb dL_law_572 rfl (lv_at hl 3 rfl) ?_
  refine lv_iconst (v := 1) hx hb dL_law_573 (by decide) ?_
  refine lv_iadd hx hb dL_law_574 ?_
  refine L_ld A I h1 dL_law_575 ?_
  refine L_callV (as := [.int (xs (i + 1).toNatClampNeg)]) (rest := []) (v := some (.int r)) (u' := u1) (o := 0) A I hl.1 (tX8_end e1) dL_law_576 hm_X8_end hv_X8_end ln_L_49 (hR0 u hu) rfl (Nat.le_of_ble_eq_true rfl) (Nat.le_of_ble_eq_true rfl) (by omega) (by omega) (fun H1 locs1 I1 => ?_)
  refine lv_aload_n hx hb dL_law_579 rfl (lv_at hl 2 rfl) ?_
  refine lv_aload_n hx hb dL_law_580 rfl (lv_at hl 0 rfl) ?_
  refine lv_iload_n hx hb dL_law_581 rfl (lv_at hl 3 rfl) ?_
  refine lv_iconst (v := 1) hx hb dL_law_582 (by decide) ?_
  refine lv_iadd hx hb dL_law_583 ?_
  refine L_ld A I1 h1 dL_law_584 ?_
  refine L_callV (as := [.int (xs (i + 1).toNatClampNeg)]) (rest := [.int r]) (v := some (.int r)) (u' := u2) (o := 45) A I1 hl.1 (tX9_end e2) dL_law_585 hm_X9_end hv_X9_end ln_L_53 hk1 rfl (Nat.le_of_ble_eq_true rfl) (Nat.le_of_ble_eq_true rfl) (by omega) (by omega) (fun H1 locs1 I1 => ?_)
  refine lv_icmp_eq (tgt := 1383) hx hb dL_law_588 (by decide) (fun _ => ?_) (fun h => absurd rfl h)
  exact kn u2 _ _ _ _ ls (by omega) (by omega) hu2 I1 hl
set_option maxRecDepth 100000 in
set_option maxHeartbeats 4000000 in
theorem L_9 {Rel : Mm → Prop} (hR0 : ∀ u, Rel u → (mK u 0).1 = 8) {i : Int32} {k : Nat} (hk : k < 512) (A : lAmb p s m args meth c g b L xs) (hs : hwS Rel (fun u => fX8_row u 0) (fun u => fX9_row u 45)) (kn : lHead p lch e s m args below meth c g b (k + 1) Q Rel 1383 i) : lHead p lch e s m args below meth c g b k Q Rel 593 i := by
  intro u H locs cells slots ls hc hsl hu I hl
  obtain ⟨r, u1, u2, e1, hk1, e2, hu2⟩ := hs u hu
  have hx := A.1
  have hb := A.2.1
  refine lv_aload_n hx hb dL_law_593 rfl (lv_at hl 1 rfl) ?_
  refine L_callV (as := []) (rest := []) (v := some (.int r)) (u' := u1) (o := 0) A I hl.1 (tX8_row e1) dL_law_594 hm_X8_row hv_X8_row ln_L_54 (hR0 u hu) rfl (Nat.le_of_ble_eq_true rfl) (Nat.le_of_ble_eq_true rfl) (by omega) (by omega) (fun H1 locs1 I1 => ?_)
  refine lv_aload_n hx hb dL_law_597 rfl (lv_at hl 2 rfl) ?_
  refine L_callV (as := []) (rest := [.int r]) (v := some (.int r)) (u' := u2) (o := 45) A I1 hl.1 (tX9_row e2) dL_law_598 hm_X9_row hv_X9_row ln_L_58 hk1 rfl (Nat.le_of_ble_eq_true rfl) (Nat.le_of_ble_eq_true rfl) (by omega) (by omega) (fun H1 locs1 I1 => ?_)
  refine lv_icmp_eq (tgt := 1383) hx hb dL_law_601 (by decide) (fun _ => ?_) (fun h => absurd rfl h)
  exact kn u2 _ _ _ _ ls (by omega) (by omega) hu2 I1 hl
set_option maxRecDepth 100000 in
set_option maxHeartbeats 4000000 in
theorem L_10 {Rel : Mm → Prop} (hR0 : ∀ u, Rel u → (mK u 0).1 = 8) {i : Int32} {k : Nat} (hk : k < 512) (A : lAmb p s m args meth c g b L xs) (hs : hwS Rel (fun u => fX8_strokes u 0) (fun u => fX9_strokes u 45)) (kn : lHead p lch e s m args below meth c g b (k + 1) Q Rel 1383 i) : lHead p lch e s m args below meth c g b k Q Rel 606 i := by
  intro u H locs cells slots ls hc hsl hu I hl
  obtain ⟨r, u1, u2, e1, hk1, e2, hu2⟩ := hs u hu
  have hx := A.1
  have hb := A.2.1
  refine lv_aload_n hx hb dL_law_606 rfl (lv_at hl 1 rfl) ?_
  refine L_callV (as := []) (rest := []) (v := some (.int r)) (u' := u1) (o := 0) A I hl.1 (tX8_strokes e1) dL_law_607 hm_X8_strokes hv_X8_strokes ln_L_59 (hR0 u hu) rfl (Nat.le_of_ble_eq_true rfl) (Nat.le_of_ble_eq_true rfl) (by omega) (by omega) (fun H1 locs1 I1 => ?_)
  refine lv_aload_n hx hb dL_law_610 rfl (lv_at hl 2 rfl) ?_
  refine L_callV (as := []) (rest := [.int r]) (v := some (.int r)) (u' := u2) (o := 45) A I1 hl.1 (tX9_strokes e2) dL_law_611 hm_X9_strokes hv_X9_strokes ln_L_62 hk1 rfl (Nat.le_of_ble_eq_true rfl) (Nat.le_of_ble_eq_true rfl) (by omega) (by omega) (fun H1 locs1 I1 => ?_)
  refine lv_icmp_eq (tgt := 1383) hx hb dL_law_614 (by decide) (fun _ => ?_) (fun h => absurd rfl h)
  exact kn u2 _ _ _ _ ls (by omega) (by omega) hu2 I1 hl
set_option maxRecDepth 100000 in
set_option maxHeartbeats 4000000 in
theorem L_11 {Rel : Mm → Prop} (hR0 : ∀ u, Rel u → (mK u 0).1 = 8) {i : Int32} {k : Nat} (hk : k < 512) (A : lAmb p s m args meth c g b L xs) (hs : hwS Rel (fun u => fX8_law u 0) (fun u => fX9_law u 45)) (kn : lHead p lch e s m args below meth c g b (k + 1) Q Rel 1383 i) : lHead p lch e s m args below meth c g b k Q Rel 619 i := by
  intro u H locs cells slots ls hc hsl hu I hl
  obtain ⟨r, u1, u2, e1, hk1, e2, hu2⟩ := hs u hu
  have hx := A.1
  have hb := A.2.1
  refine lv_aload_n hx hb dL_law_619 rfl (lv_at hl 1 rfl) ?_
  refine L_callV (as := []) (rest := []) (v := some (.int r)) (u' := u1) (o := 0) A I hl.1 (tX8_law e1) dL_law_620 hm_X8_law hv_X8_law ln_L_63 (hR0 u hu) rfl (Nat.le_of_ble_eq_true rfl) (Nat.le_of_ble_eq_true rfl) (by omega) (by omega) (fun H1 locs1 I1 => ?_)
  refine lv_aload_n hx hb dL_law_623 rfl (lv_at hl 2 rfl) ?_
  refine L_callV (as := []) (rest := [.int r]) (v := some (.int r)) (u' := u2) (o := 45) A I1 hl.1 (tX9_law e2) dL_law_624 hm_X9_law hv_X9_law ln_L_66 hk1 rfl (Nat.le_of_ble_eq_true rfl) (Nat.le_of_ble_eq_true rfl) (by omega) (by omega) (fun H1 locs1 I1 => ?_)
  refine lv_icmp_eq (tgt := 1383) hx hb dL_law_627 (by decide) (fun _ => ?_) (fun h => absurd rfl h)
  exact kn u2 _ _ _ _ ls (by omega) (by omega) hu2 I1 hl
set_option maxRecDepth 100000 in
set_option maxHeartbeats 4000000 in
theorem L_12 {Rel : Mm → Prop} (hR0 : ∀ u, Rel u → (mK u 0).1 = 8) {i : Int32} {k : Nat} (hk : k < 512) (A : lAmb p s m args meth c g b L xs) (hs : hwS Rel (fun u => fX8_orders u 0) (fun u => fX9_orders u 45)) (kn : lHead p lch e s m args below meth c g b (k + 1) Q Rel 1383 i) : lHead p lch e s m args below meth c g b k Q Rel 632 i := by
  intro u H locs cells slots ls hc hsl hu I hl
  obtain ⟨r, u1, u2, e1, hk1, e2, hu2⟩ := hs u hu
  have hx := A.1
  have hb := A.2.1
  refine lv_aload_n hx hb dL_law_632 rfl (lv_at hl 1 rfl) ?_
  refine L_callV (as := []) (rest := []) (v := some (.int r)) (u' := u1) (o := 0) A I hl.1 (tX8_orders e1) dL_law_633 hm_X8_orders hv_X8_orders ln_L_67 (hR0 u hu) rfl (Nat.le_of_ble_eq_true rfl) (Nat.le_of_ble_eq_true rfl) (by omega) (by omega) (fun H1 locs1 I1 => ?_)
  refine lv_aload_n hx hb dL_law_636 rfl (lv_at hl 2 rfl) ?_
  refine L_callV (as := []) (rest := [.int r]) (v := some (.int r)) (u' := u2) (o := 45) A I1 hl.1 (tX9_orders e2) dL_law_637 hm_X9_orders hv_X9_orders ln_L_70 hk1 rfl (Nat.le_of_ble_eq_true rfl) (Nat.le_of_ble_eq_true rfl) (by omega) (by omega) (fun H1 locs1 I1 => ?_)
  refine lv_icmp_eq (tgt := 1383) hx hb dL_law_640 (by decide) (fun _ => ?_) (fun h => absurd rfl h)
  exact kn u2 _ _ _ _ ls (by omega) (by omega) hu2 I1 hl
set_option maxRecDepth 100000 in
set_option maxHeartbeats 4000000 in
theorem L_13 {Rel : Mm → Prop} (hR0 : ∀ u, Rel u → (mK u 0).1 = 8) {i : Int32} {k : Nat} (hk : k < 512) (A : lAmb p s m args meth c g b L xs) (hs : hwS Rel (fun u => fX8_fault u 0) (fun u => fX9_fault u 45)) (kn : lHead p lch e s m args below meth c g b (k + 1) Q Rel 1383 i) : lHead p lch e s m args below meth c g b k Q Rel 645 i := by
  intro u H locs cells slots ls hc hsl hu I hl
  obtain ⟨r, u1, u2, e1, hk1, e2, hu2⟩ := hs u hu
  have hx := A.1
  have hb := A.2.1
  refine lv_aload_n hx hb dL_law_645 rfl (lv_at hl 1 rfl) ?_
  refine L_callV (as := []) (rest := []) (v := some (.int r)) (u' := u1) (o := 0) A I hl.1 (tX8_fault e1) dL_law_646 hm_X8_fault hv_X8_fault ln_L_71 (hR0 u hu) rfl (Nat.le_of_ble_eq_true rfl) (Nat.le_of_ble_eq_true rfl) (by omega) (by omega) (fun H1 locs1 I1 => ?_)
  refine lv_aload_n hx hb dL_law_649 rfl (lv_at hl 2 rfl) ?_
  refine L_callV (as := []) (rest := [.int r]) (v := some (.int r)) (u' := u2) (o := 45) A I1 hl.1 (tX9_fault e2) dL_law_650 hm_X9_fault hv_X9_fault ln_L_74 hk1 rfl (Nat.le_of_ble_eq_true rfl) (Nat.le_of_ble_eq_true rfl) (by omega) (by omega) (fun H1 locs1 I1 => ?_)
  refine lv_icmp_eq (tgt := 1383) hx hb dL_law_653 (by decide) (fun _ => ?_) (fun h => absurd rfl h)
  exact kn u2 _ _ _ _ ls (by omega) (by omega) hu2 I1 hl
set_option maxRecDepth 100000 in
set_option maxHeartbeats 4000000 in
theorem L_14 {Rel : Mm → Prop} (hR0 : ∀ u, Rel u → (mK u 0).1 = 8) {i : Int32} {k : Nat} (hk : k < 512) (A : lAmb p s m args meth c g b L xs) (hs : hwS Rel (fun u => fX8_stopped u 0) (fun u => fX9_stopped u 45)) (kn : lHead p lch e s m args below meth c g b (k + 1) Q Rel 1383 i) : lHead p lch e s m args below meth c g b k Q Rel 658 i := by
  intro u H locs cells slots ls hc hsl hu I hl
  obtain ⟨r, u1, u2, e1, hk1, e2, hu2⟩ := hs u hu
  have hx := A.1
  have hb := A.2.1
  refine lv_aload_n hx hb dL_law_658 rfl (lv_at hl 1 rfl) ?_
  refine L_callV (as := []) (rest := []) (v := some (.int r)) (u' := u1) (o := 0) A I hl.1 (tX8_stopped e1) dL_law_659 hm_X8_stopped hv_X8_stopped ln_L_75 (hR0 u hu) rfl (Nat.le_of_ble_eq_true rfl) (Nat.le_of_ble_eq_true rfl) (by omega) (by omega) (fun H1 locs1 I1 => ?_)
  refine lv_aload_n hx hb dL_law_662 rfl (lv_at hl 2 rfl) ?_
  refine L_callV (as := []) (rest := [.int r]) (v := some (.int r)) (u' := u2) (o := 45) A I1 hl.1 (tX9_stopped e2) dL_law_663 hm_X9_stopped hv_X9_stopped ln_L_78 hk1 rfl (Nat.le_of_ble_eq_true rfl) (Nat.le_of_ble_eq_true rfl) (by omega) (by omega) (fun H1 locs1 I1 => ?_)
  refine lv_icmp_eq (tgt := 1383) hx hb dL_law_666 (by decide) (fun _ => ?_) (fun h => absurd rfl h)
  exact kn u2 _ _ _ _ ls (by omega) (by omega) hu2 I1 hl
set_option maxRecDepth 100000 in
set_option maxHeartbeats 4000000 in
theorem L_15 {Rel : Mm → Prop} (hR0 : ∀ u, Rel u → (mK u 0).1 = 8) {i : Int32} {k : Nat} (hk : k < 512) (A : lAmb p s m args meth c g b L xs) (h1 : vp_in (i + 1) L) (hs : ∀ (x1 : Int32), hwS Rel (fun u => fX8_force u 0 x1) (fun u => fX9_force u 45 x1)) (kn : lHead p lch e s m args below meth c g b (k + 1) Q Rel 1383 i) : lHead p lch e s m args below meth c g b k Q Rel 671 i := by
  intro u H locs cells slots ls hc hsl hu I hl
  obtain ⟨r, u1, u2, e1, hk1, e2, hu2⟩ := hs (xs (i + 1).toNatClampNeg) u hu
  have hx := A.1
  have hb := A.2.1
  refine lv_aload_n hx hb dL_law_671 rfl (lv_at hl 1 rfl) ?_
  refine lv_aload_n hx hb dL_law_672 rfl (lv_at hl 0 rfl) ?_
  refine lv_iload_n hx hb dL_law_673 rfl (lv_at hl 3 rfl) ?_
  refine lv_iconst (v := 1) hx hb dL_law_674 (by decide) ?_
  refine lv_iadd hx hb dL_law_675 ?_
  refine L_ld A I h1 dL_law_676 ?_
  refine L_callV (as := [.int (xs (i + 1).toNatClampNeg)]) (rest := []) (v := some (.int r)) (u' := u1) (o := 0) A I hl.1 (tX8_force e1) dL_law_677 hm_X8_force hv_X8_force ln_L_79 (hR0 u hu) rfl (Nat.le_of_ble_eq_true rfl) (Nat.le_of_ble_eq_true rfl) (by omega) (by omega) (fun H1 locs1 I1 => ?_)
  refine lv_aload_n hx hb dL_law_680 rfl (lv_at hl 2 rfl) ?_
  refine lv_aload_n hx hb dL_law_681 rfl (lv_at hl 0 rfl) ?_
  refine lv_iload_n hx hb dL_law_682 rfl (lv_at hl 3 rfl) ?_
  refine lv_iconst (v := 1) hx hb dL_law_683 (by decide) ?_
  refine lv_iadd hx hb dL_law_684 ?_
  refine L_ld A I1 h1 dL_law_685 ?_
  refine L_callV (as := [.int (xs (i + 1).toNatClampNeg)]) (rest := [.int r]) (v := some (.int r)) (u' := u2) (o := 45) A I1 hl.1 (tX9_force e2) dL_law_686 hm_X9_force hv_X9_force ln_L_82 hk1 rfl (Nat.le_of_ble_eq_true rfl) (Nat.le_of_ble_eq_true rfl) (by omega) (by omega) (fun H1 locs1 I1 => ?_)
  refine lv_icmp_eq (tgt := 1383) hx hb dL_law_689 (by decide) (fun _ => ?_) (fun h => absurd rfl h)
  exact kn u2 _ _ _ _ ls (by omega) (by omega) hu2 I1 hl
set_option maxRecDepth 100000 in
set_option maxHeartbeats 4000000 in
theorem L_16 {Rel : Mm → Prop} (hR0 : ∀ u, Rel u → (mK u 0).1 = 8) {i : Int32} {k : Nat} (hk : k < 512) (A : lAmb p s m args meth c g b L xs) (h1 : vp_in (i + 1) L) (h2 : vp_in (i + 2) L) (hs : ∀ (x1 : Int32) (x2 : Int32), hwS Rel (fun u => fX8_attack u 0 x1 x2) (fun u => fX9_attack u 45 x1 x2)) (kn : lHead p lch e s m args below meth c g b (k + 1) Q Rel 1383 i) : lHead p lch e s m args below meth c g b k Q Rel 694 i := by
  intro u H locs cells slots ls hc hsl hu I hl
  obtain ⟨r, u1, u2, e1, hk1, e2, hu2⟩ := hs (xs (i + 1).toNatClampNeg) (xs (i + 2).toNatClampNeg) u hu
  have hx := A.1
  have hb := A.2.1
  refine lv_aload_n hx hb dL_law_694 rfl (lv_at hl 1 rfl) ?_
  refine lv_aload_n hx hb dL_law_695 rfl (lv_at hl 0 rfl) ?_
  refine lv_iload_n hx hb dL_law_696 rfl (lv_at hl 3 rfl) ?_
  refine lv_iconst (v := 1) hx hb dL_law_697 (by decide) ?_
  refine lv_iadd hx hb dL_law_698 ?_
  refine L_ld A I h1 dL_law_699 ?_
  refine lv_aload_n hx hb dL_law_700 rfl (lv_at hl 0 rfl) ?_
  refine lv_iload_n hx hb dL_law_701 rfl (lv_at hl 3 rfl) ?_
  refine lv_iconst (v := 2) hx hb dL_law_702 (by decide) ?_
  refine lv_iadd hx hb dL_law_703 ?_
  refine L_ld A I h2 dL_law_704 ?_
  refine L_callV (as := [.int (xs (i + 1).toNatClampNeg), .int (xs (i + 2).toNatClampNeg)]) (rest := []) (v := some (.int r)) (u' := u1) (o := 0) A I hl.1 (tX8_attack e1) dL_law_705 hm_X8_attack hv_X8_attack ln_L_83 (hR0 u hu) rfl (Nat.le_of_ble_eq_true rfl) (Nat.le_of_ble_eq_true rfl) (by omega) (by omega) (fun H1 locs1 I1 => ?_)
  refine lv_aload_n hx hb dL_law_708 rfl (lv_at hl 2 rfl) ?_
  refine lv_aload_n hx hb dL_law_709 rfl (lv_at hl 0 rfl) ?_
  refine lv_iload_n hx hb dL_law_710 rfl (lv_at hl 3 rfl) ?_
  refine lv_iconst (v := 1) hx hb dL_law_711 (by decide) ?_
  refine lv_iadd hx hb dL_law_712 ?_
  refine L_ld A I1 h1 dL_law_713 ?_
  refine lv_aload_n hx hb dL_law_714 rfl (lv_at hl 0 rfl) ?_
  refine lv_iload_n hx hb dL_law_715 rfl (lv_at hl 3 rfl) ?_
  refine lv_iconst (v := 2) hx hb dL_law_716 (by decide) ?_
  refine lv_iadd hx hb dL_law_717 ?_
  refine L_ld A I1 h2 dL_law_718 ?_
  refine L_callV (as := [.int (xs (i + 1).toNatClampNeg), .int (xs (i + 2).toNatClampNeg)]) (rest := [.int r]) (v := some (.int r)) (u' := u2) (o := 45) A I1 hl.1 (tX9_attack e2) dL_law_719 hm_X9_attack hv_X9_attack ln_L_86 hk1 rfl (Nat.le_of_ble_eq_true rfl) (Nat.le_of_ble_eq_true rfl) (by omega) (by omega) (fun H1 locs1 I1 => ?_)
  refine lv_icmp_eq (tgt := 1383) hx hb dL_law_722 (by decide) (fun _ => ?_) (fun h => absurd rfl h)
  exact kn u2 _ _ _ _ ls (by omega) (by omega) hu2 I1 hl
set_option maxRecDepth 100000 in
set_option maxHeartbeats 4000000 in
theorem L_17 {Rel : Mm → Prop} (hR0 : ∀ u, Rel u → (mK u 0).1 = 8) {i : Int32} {k : Nat} (hk : k < 512) (A : lAmb p s m args meth c g b L xs) (h1 : vp_in (i + 1) L) (h2 : vp_in (i + 2) L) (h3 : vp_in (i + 3) L) (hs : ∀ (x1 : Int32) (x2 : Int32) (x3 : Int32), hwS Rel (fun u => fX8_shift u 0 x1 x2 x3) (fun u => fX9_shift u 45 x1 x2 x3)) (kn : lHead p lch e s m args below meth c g b (k + 1) Q Rel 1383 i) : lHead p lch e s m args below meth c g b k Q Rel 727 i := by
  intro u H locs cells slots ls hc hsl hu I hl
  obtain ⟨r, u1, u2, e1, hk1, e2, hu2⟩ := hs (xs (i + 1).toNatClampNeg) (xs (i + 2).toNatClampNeg) (xs (i + 3).toNatClampNeg) u hu
  have hx := A.1
  have hb := A.2.1
  refine lv_aload_n hx hb dL_law_727 rfl (lv_at hl 1 rfl) ?_
  refine lv_aload_n hx hb dL_law_728 rfl (lv_at hl 0 rfl) ?_
  refine lv_iload_n hx hb dL_law_729 rfl (lv_at hl 3 rfl) ?_
  refine lv_iconst (v := 1) hx hb dL_law_730 (by decide) ?_
  refine lv_iadd hx hb dL_law_731 ?_
  refine L_ld A I h1 dL_law_732 ?_
  refine lv_aload_n hx hb dL_law_733 rfl (lv_at hl 0 rfl) ?_
  refine lv_iload_n hx hb dL_law_734 rfl (lv_at hl 3 rfl) ?_
  refine lv_iconst (v := 2) hx hb dL_law_735 (by decide) ?_
  refine lv_iadd hx hb dL_law_736 ?_
  refine L_ld A I h2 dL_law_737 ?_
  refine lv_aload_n hx hb dL_law_738 rfl (lv_at hl 0 rfl) ?_
  refine lv_iload_n hx hb dL_law_739 rfl (lv_at hl 3 rfl) ?_
  refine lv_iconst (v := 3) hx hb dL_law_740 (by decide) ?_
  refine lv_iadd hx hb dL_law_741 ?_
  refine L_ld A I h3 dL_law_742 ?_
  refine L_callV (as := [.int (xs (i + 1).toNatClampNeg), .int (xs (i + 2).toNatClampNeg), .int (xs (i + 3).toNatClampNeg)]) (rest := []) (v := some (.int r)) (u' := u1) (o := 0) A I hl.1 (tX8_shift e1) dL_law_743 hm_X8_shift hv_X8_shift ln_L_87 (hR0 u hu) rfl (Nat.le_of_ble_eq_true rfl) (Nat.le_of_ble_eq_true rfl) (by omega) (by omega) (fun H1 locs1 I1 => ?_)
  refine lv_aload_n hx hb dL_law_746 rfl (lv_at hl 2 rfl) ?_
  refine lv_aload_n hx hb dL_law_747 rfl (lv_at hl 0 rfl) ?_
  refine lv_iload_n hx hb dL_law_748 rfl (lv_at hl 3 rfl) ?_
  refine lv_iconst (v := 1) hx hb dL_law_749 (by decide) ?_
  refine lv_iadd hx hb dL_law_750 ?_
  refine L_ld A I1 h1 dL_law_751 ?_
  refine lv_aload_n hx hb dL_law_752 rfl (lv_at hl 0 rfl) ?_
  refine lv_iload_n hx hb dL_law_753 rfl (lv_at hl 3 rfl) ?_
  refine lv_iconst (v := 2) hx hb dL_law_754 (by decide) ?_
  refine lv_iadd hx hb dL_law_755 ?_
  refine L_ld A I1 h2 dL_law_756 ?_
  refine lv_aload_n hx hb dL_law_757 rfl (lv_at hl 0 rfl) ?_
  refine lv_iload_n hx hb dL_law_758 rfl (lv_at hl 3 rfl) ?_
  refine lv_iconst (v := 3) hx hb dL_law_759 (by decide) ?_
  refine lv_iadd hx hb dL_law_760 ?_
  refine L_ld A I1 h3 dL_law_761 ?_
  refine L_callV (as := [.int (xs (i + 1).toNatClampNeg), .int (xs (i + 2).toNatClampNeg), .int (xs (i + 3).toNatClampNeg)]) (rest := [.int r]) (v := some (.int r)) (u' := u2) (o := 45) A I1 hl.1 (tX9_shift e2) dL_law_762 hm_X9_shift hv_X9_shift ln_L_90 hk1 rfl (Nat.le_of_ble_eq_true rfl) (Nat.le_of_ble_eq_true rfl) (by omega) (by omega) (fun H1 locs1 I1 => ?_)
  refine lv_icmp_eq (tgt := 1383) hx hb dL_law_765 (by decide) (fun _ => ?_) (fun h => absurd rfl h)
  exact kn u2 _ _ _ _ ls (by omega) (by omega) hu2 I1 hl
set_option maxRecDepth 100000 in
set_option maxHeartbeats 4000000 in
theorem L_18 {Rel : Mm → Prop} (hR0 : ∀ u, Rel u → (mK u 0).1 = 8) {i : Int32} {k : Nat} (hk : k < 512) (A : lAmb p s m args meth c g b L xs) (h1 : vp_in (i + 1) L) (h2 : vp_in (i + 2) L) (hs : ∀ (x1 : Int32) (x2 : Int32), hwS Rel (fun u => fX8_show u 0 x1 x2) (fun u => fX9_show u 45 x1 x2)) (kn : lHead p lch e s m args below meth c g b (k + 1) Q Rel 1383 i) : lHead p lch e s m args below meth c g b k Q Rel 770 i := by
  intro u H locs cells slots ls hc hsl hu I hl
  obtain ⟨r, u1, u2, e1, hk1, e2, hu2⟩ := hs (xs (i + 1).toNatClampNeg) (xs (i + 2).toNatClampNeg) u hu
  have hx := A.1
  have hb := A.2.1
  refine lv_aload_n hx hb dL_law_770 rfl (lv_at hl 1 rfl) ?_
  refine lv_aload_n hx hb dL_law_771 rfl (lv_at hl 0 rfl) ?_
  refine lv_iload_n hx hb dL_law_772 rfl (lv_at hl 3 rfl) ?_
  refine lv_iconst (v := 1) hx hb dL_law_773 (by decide) ?_
  refine lv_iadd hx hb dL_law_774 ?_
  refine L_ld A I h1 dL_law_775 ?_
  refine lv_aload_n hx hb dL_law_776 rfl (lv_at hl 0 rfl) ?_
  refine lv_iload_n hx hb dL_law_777 rfl (lv_at hl 3 rfl) ?_
  refine lv_iconst (v := 2) hx hb dL_law_778 (by decide) ?_
  refine lv_iadd hx hb dL_law_779 ?_
  refine L_ld A I h2 dL_law_780 ?_
  refine L_callV (as := [.int (xs (i + 1).toNatClampNeg), .int (xs (i + 2).toNatClampNeg)]) (rest := []) (v := some (.int r)) (u' := u1) (o := 0) A I hl.1 (tX8_show e1) dL_law_781 hm_X8_show hv_X8_show ln_L_91 (hR0 u hu) rfl (Nat.le_of_ble_eq_true rfl) (Nat.le_of_ble_eq_true rfl) (by omega) (by omega) (fun H1 locs1 I1 => ?_)
  refine lv_aload_n hx hb dL_law_784 rfl (lv_at hl 2 rfl) ?_
  refine lv_aload_n hx hb dL_law_785 rfl (lv_at hl 0 rfl) ?_
  refine lv_iload_n hx hb dL_law_786 rfl (lv_at hl 3 rfl) ?_
  refine lv_iconst (v := 1) hx hb dL_law_787 (by decide) ?_
  refine lv_iadd hx hb dL_law_788 ?_
  refine L_ld A I1 h1 dL_law_789 ?_
  refine lv_aload_n hx hb dL_law_790 rfl (lv_at hl 0 rfl) ?_
  refine lv_iload_n hx hb dL_law_791 rfl (lv_at hl 3 rfl) ?_
  refine lv_iconst (v := 2) hx hb dL_law_792 (by decide) ?_
  refine lv_iadd hx hb dL_law_793 ?_
  refine L_ld A I1 h2 dL_law_794 ?_
  refine L_callV (as := [.int (xs (i + 1).toNatClampNeg), .int (xs (i + 2).toNatClampNeg)]) (rest := [.int r]) (v := some (.int r)) (u' := u2) (o := 45) A I1 hl.1 (tX9_show e2) dL_law_795 hm_X9_show hv_X9_show ln_L_94 hk1 rfl (Nat.le_of_ble_eq_true rfl) (Nat.le_of_ble_eq_true rfl) (by omega) (by omega) (fun H1 locs1 I1 => ?_)
  refine lv_icmp_eq (tgt := 1383) hx hb dL_law_798 (by decide) (fun _ => ?_) (fun h => absurd rfl h)
  exact kn u2 _ _ _ _ ls (by omega) (by omega) hu2 I1 hl
set_option maxRecDepth 100000 in
set_option maxHeartbeats 4000000 in
theorem L_19 {Rel : Mm → Prop} (hR0 : ∀ u, Rel u → (mK u 0).1 = 8) {i : Int32} {k : Nat} (hk : k < 512) (A : lAmb p s m args meth c g b L xs) (hs : hwS Rel (fun u => fX8_pass u 0) (fun u => fX9_pass u 45)) (kn : lHead p lch e s m args below meth c g b (k + 1) Q Rel 1383 i) : lHead p lch e s m args below meth c g b k Q Rel 803 i := by
  intro u H locs cells slots ls hc hsl hu I hl
  obtain ⟨r, u1, u2, e1, hk1, e2, hu2⟩ := hs u hu
  have hx := A.1
  have hb := A.2.1
  refine lv_aload_n hx hb dL_law_803 rfl (lv_at hl 1 rfl) ?_
  refine L_callV (as := []) (rest := []) (v := some (.int r)) (u' := u1) (o := 0) A I hl.1 (tX8_pass e1) dL_law_804 hm_X8_pass hv_X8_pass ln_L_95 (hR0 u hu) rfl (Nat.le_of_ble_eq_true rfl) (Nat.le_of_ble_eq_true rfl) (by omega) (by omega) (fun H1 locs1 I1 => ?_)
  refine lv_aload_n hx hb dL_law_807 rfl (lv_at hl 2 rfl) ?_
  refine L_callV (as := []) (rest := [.int r]) (v := some (.int r)) (u' := u2) (o := 45) A I1 hl.1 (tX9_pass e2) dL_law_808 hm_X9_pass hv_X9_pass ln_L_98 hk1 rfl (Nat.le_of_ble_eq_true rfl) (Nat.le_of_ble_eq_true rfl) (by omega) (by omega) (fun H1 locs1 I1 => ?_)
  refine lv_icmp_eq (tgt := 1383) hx hb dL_law_811 (by decide) (fun _ => ?_) (fun h => absurd rfl h)
  exact kn u2 _ _ _ _ ls (by omega) (by omega) hu2 I1 hl
set_option maxRecDepth 100000 in
set_option maxHeartbeats 4000000 in
theorem L_20 {Rel : Mm → Prop} (hR0 : ∀ u, Rel u → (mK u 0).1 = 8) {i : Int32} {k : Nat} (hk : k < 512) (A : lAmb p s m args meth c g b L xs) (hs : hwS Rel (fun u => fX8_undo u 0) (fun u => fX9_undo u 45)) (kn : lHead p lch e s m args below meth c g b (k + 1) Q Rel 1383 i) : lHead p lch e s m args below meth c g b k Q Rel 816 i := by
  intro u H locs cells slots ls hc hsl hu I hl
  obtain ⟨r, u1, u2, e1, hk1, e2, hu2⟩ := hs u hu
  have hx := A.1
  have hb := A.2.1
  refine lv_aload_n hx hb dL_law_816 rfl (lv_at hl 1 rfl) ?_
  refine L_callV (as := []) (rest := []) (v := some (.int r)) (u' := u1) (o := 0) A I hl.1 (tX8_undo e1) dL_law_817 hm_X8_undo hv_X8_undo ln_L_99 (hR0 u hu) rfl (Nat.le_of_ble_eq_true rfl) (Nat.le_of_ble_eq_true rfl) (by omega) (by omega) (fun H1 locs1 I1 => ?_)
  refine lv_aload_n hx hb dL_law_820 rfl (lv_at hl 2 rfl) ?_
  refine L_callV (as := []) (rest := [.int r]) (v := some (.int r)) (u' := u2) (o := 45) A I1 hl.1 (tX9_undo e2) dL_law_821 hm_X9_undo hv_X9_undo ln_L_102 hk1 rfl (Nat.le_of_ble_eq_true rfl) (Nat.le_of_ble_eq_true rfl) (by omega) (by omega) (fun H1 locs1 I1 => ?_)
  refine lv_icmp_eq (tgt := 1383) hx hb dL_law_824 (by decide) (fun _ => ?_) (fun h => absurd rfl h)
  exact kn u2 _ _ _ _ ls (by omega) (by omega) hu2 I1 hl
set_option maxRecDepth 100000 in
set_option maxHeartbeats 4000000 in
theorem L_21 {Rel : Mm → Prop} (hR0 : ∀ u, Rel u → (mK u 0).1 = 8) {i : Int32} {k : Nat} (hk : k < 512) (A : lAmb p s m args meth c g b L xs) (h1 : vp_in (i + 1) L) (hs : ∀ (x1 : Int32), hwS Rel (fun u => fX8_treaty u 0 x1) (fun u => fX9_treaty u 45 x1)) (kn : lHead p lch e s m args below meth c g b (k + 1) Q Rel 1383 i) : lHead p lch e s m args below meth c g b k Q Rel 829 i := by
  intro u H locs cells slots ls hc hsl hu I hl
  obtain ⟨r, u1, u2, e1, hk1, e2, hu2⟩ := hs (xs (i + 1).toNatClampNeg) u hu
  have hx := A.1
  have hb := A.2.1
  refine lv_aload_n hx hb dL_law_829 rfl (lv_at hl 1 rfl) ?_
  refine lv_aload_n hx hb dL_law_830 rfl (lv_at hl 0 rfl) ?_
  refine lv_iload_n hx hb dL_law_831 rfl (lv_at hl 3 rfl) ?_
  refine lv_iconst (v := 1) hx hb dL_law_832 (by decide) ?_
  refine lv_iadd hx hb dL_law_833 ?_
  refine L_ld A I h1 dL_law_834 ?_
  refine L_callV (as := [.int (xs (i + 1).toNatClampNeg)]) (rest := []) (v := some (.int r)) (u' := u1) (o := 0) A I hl.1 (tX8_treaty e1) dL_law_835 hm_X8_treaty hv_X8_treaty ln_L_103 (hR0 u hu) rfl (Nat.le_of_ble_eq_true rfl) (Nat.le_of_ble_eq_true rfl) (by omega) (by omega) (fun H1 locs1 I1 => ?_)
  refine lv_aload_n hx hb dL_law_838 rfl (lv_at hl 2 rfl) ?_
  refine lv_aload_n hx hb dL_law_839 rfl (lv_at hl 0 rfl) ?_
  refine lv_iload_n hx hb dL_law_840 rfl (lv_at hl 3 rfl) ?_
  refine lv_iconst (v := 1) hx hb dL_law_841 (by decide) ?_
  refine lv_iadd hx hb dL_law_842 ?_
  refine L_ld A I1 h1 dL_law_843 ?_
  refine L_callV (as := [.int (xs (i + 1).toNatClampNeg)]) (rest := [.int r]) (v := some (.int r)) (u' := u2) (o := 45) A I1 hl.1 (tX9_treaty e2) dL_law_844 hm_X9_treaty hv_X9_treaty ln_L_106 hk1 rfl (Nat.le_of_ble_eq_true rfl) (Nat.le_of_ble_eq_true rfl) (by omega) (by omega) (fun H1 locs1 I1 => ?_)
  refine lv_icmp_eq (tgt := 1383) hx hb dL_law_847 (by decide) (fun _ => ?_) (fun h => absurd rfl h)
  exact kn u2 _ _ _ _ ls (by omega) (by omega) hu2 I1 hl
set_option maxRecDepth 100000 in
set_option maxHeartbeats 4000000 in
theorem L_22 {Rel : Mm → Prop} (hR0 : ∀ u, Rel u → (mK u 0).1 = 8) {i : Int32} {k : Nat} (hk : k < 512) (A : lAmb p s m args meth c g b L xs) (h1 : vp_in (i + 1) L) (h2 : vp_in (i + 2) L) (hs : ∀ (x1 : Int32) (x2 : Int32), hwS Rel (fun u => fX8_hear u 0 x1 x2) (fun u => fX9_hear u 45 x1 x2)) (kn : lHead p lch e s m args below meth c g b (k + 1) Q Rel 1383 i) : lHead p lch e s m args below meth c g b k Q Rel 852 i := by
  intro u H locs cells slots ls hc hsl hu I hl
  obtain ⟨r, u1, u2, e1, hk1, e2, hu2⟩ := hs (xs (i + 1).toNatClampNeg) (xs (i + 2).toNatClampNeg) u hu
  have hx := A.1
  have hb := A.2.1
  refine lv_aload_n hx hb dL_law_852 rfl (lv_at hl 1 rfl) ?_
  refine lv_aload_n hx hb dL_law_853 rfl (lv_at hl 0 rfl) ?_
  refine lv_iload_n hx hb dL_law_854 rfl (lv_at hl 3 rfl) ?_
  refine lv_iconst (v := 1) hx hb dL_law_855 (by decide) ?_
  refine lv_iadd hx hb dL_law_856 ?_
  refine L_ld A I h1 dL_law_857 ?_
  refine lv_aload_n hx hb dL_law_858 rfl (lv_at hl 0 rfl) ?_
  refine lv_iload_n hx hb dL_law_859 rfl (lv_at hl 3 rfl) ?_
  refine lv_iconst (v := 2) hx hb dL_law_860 (by decide) ?_
  refine lv_iadd hx hb dL_law_861 ?_
  refine L_ld A I h2 dL_law_862 ?_
  refine L_callV (as := [.int (xs (i + 1).toNatClampNeg), .int (xs (i + 2).toNatClampNeg)]) (rest := []) (v := some (.int r)) (u' := u1) (o := 0) A I hl.1 (tX8_hear e1) dL_law_863 hm_X8_hear hv_X8_hear ln_L_107 (hR0 u hu) rfl (Nat.le_of_ble_eq_true rfl) (Nat.le_of_ble_eq_true rfl) (by omega) (by omega) (fun H1 locs1 I1 => ?_)
  refine lv_aload_n hx hb dL_law_866 rfl (lv_at hl 2 rfl) ?_
  refine lv_aload_n hx hb dL_law_867 rfl (lv_at hl 0 rfl) ?_
  refine lv_iload_n hx hb dL_law_868 rfl (lv_at hl 3 rfl) ?_
  refine lv_iconst (v := 1) hx hb dL_law_869 (by decide) ?_
  refine lv_iadd hx hb dL_law_870 ?_
  refine L_ld A I1 h1 dL_law_871 ?_
  refine lv_aload_n hx hb dL_law_872 rfl (lv_at hl 0 rfl) ?_
  refine lv_iload_n hx hb dL_law_873 rfl (lv_at hl 3 rfl) ?_
  refine lv_iconst (v := 2) hx hb dL_law_874 (by decide) ?_
  refine lv_iadd hx hb dL_law_875 ?_
  refine L_ld A I1 h2 dL_law_876 ?_
  refine L_callV (as := [.int (xs (i + 1).toNatClampNeg), .int (xs (i + 2).toNatClampNeg)]) (rest := [.int r]) (v := some (.int r)) (u' := u2) (o := 45) A I1 hl.1 (tX9_hear e2) dL_law_877 hm_X9_hear hv_X9_hear ln_L_110 hk1 rfl (Nat.le_of_ble_eq_true rfl) (Nat.le_of_ble_eq_true rfl) (by omega) (by omega) (fun H1 locs1 I1 => ?_)
  refine lv_icmp_eq (tgt := 1383) hx hb dL_law_880 (by decide) (fun _ => ?_) (fun h => absurd rfl h)
  exact kn u2 _ _ _ _ ls (by omega) (by omega) hu2 I1 hl
set_option maxRecDepth 100000 in
set_option maxHeartbeats 4000000 in
theorem L_23 {Rel : Mm → Prop} (hR0 : ∀ u, Rel u → (mK u 0).1 = 8) {i : Int32} {k : Nat} (hk : k < 512) (A : lAmb p s m args meth c g b L xs) (h1 : vp_in (i + 1) L) (h2 : vp_in (i + 2) L) (hs : ∀ (x1 : Int32) (x2 : Int32), hwS Rel (fun u => fX8_tell u 0 x1 x2) (fun u => fX9_tell u 45 x1 x2)) (kn : lHead p lch e s m args below meth c g b (k + 1) Q Rel 1383 i) : lHead p lch e s m args below meth c g b k Q Rel 885 i := by
  intro u H locs cells slots ls hc hsl hu I hl
  obtain ⟨r, u1, u2, e1, hk1, e2, hu2⟩ := hs (xs (i + 1).toNatClampNeg) (xs (i + 2).toNatClampNeg) u hu
  have hx := A.1
  have hb := A.2.1
  refine lv_aload_n hx hb dL_law_885 rfl (lv_at hl 1 rfl) ?_
  refine lv_aload_n hx hb dL_law_886 rfl (lv_at hl 0 rfl) ?_
  refine lv_iload_n hx hb dL_law_887 rfl (lv_at hl 3 rfl) ?_
  refine lv_iconst (v := 1) hx hb dL_law_888 (by decide) ?_
  refine lv_iadd hx hb dL_law_889 ?_
  refine L_ld A I h1 dL_law_890 ?_
  refine lv_aload_n hx hb dL_law_891 rfl (lv_at hl 0 rfl) ?_
  refine lv_iload_n hx hb dL_law_892 rfl (lv_at hl 3 rfl) ?_
  refine lv_iconst (v := 2) hx hb dL_law_893 (by decide) ?_
  refine lv_iadd hx hb dL_law_894 ?_
  refine L_ld A I h2 dL_law_895 ?_
  refine L_callV (as := [.int (xs (i + 1).toNatClampNeg), .int (xs (i + 2).toNatClampNeg)]) (rest := []) (v := some (.int r)) (u' := u1) (o := 0) A I hl.1 (tX8_tell e1) dL_law_896 hm_X8_tell hv_X8_tell ln_L_111 (hR0 u hu) rfl (Nat.le_of_ble_eq_true rfl) (Nat.le_of_ble_eq_true rfl) (by omega) (by omega) (fun H1 locs1 I1 => ?_)
  refine lv_aload_n hx hb dL_law_899 rfl (lv_at hl 2 rfl) ?_
  refine lv_aload_n hx hb dL_law_900 rfl (lv_at hl 0 rfl) ?_
  refine lv_iload_n hx hb dL_law_901 rfl (lv_at hl 3 rfl) ?_
  refine lv_iconst (v := 1) hx hb dL_law_902 (by decide) ?_
  refine lv_iadd hx hb dL_law_903 ?_
  refine L_ld A I1 h1 dL_law_904 ?_
  refine lv_aload_n hx hb dL_law_905 rfl (lv_at hl 0 rfl) ?_
  refine lv_iload_n hx hb dL_law_906 rfl (lv_at hl 3 rfl) ?_
  refine lv_iconst (v := 2) hx hb dL_law_907 (by decide) ?_
  refine lv_iadd hx hb dL_law_908 ?_
  refine L_ld A I1 h2 dL_law_909 ?_
  refine L_callV (as := [.int (xs (i + 1).toNatClampNeg), .int (xs (i + 2).toNatClampNeg)]) (rest := [.int r]) (v := some (.int r)) (u' := u2) (o := 45) A I1 hl.1 (tX9_tell e2) dL_law_910 hm_X9_tell hv_X9_tell ln_L_114 hk1 rfl (Nat.le_of_ble_eq_true rfl) (Nat.le_of_ble_eq_true rfl) (by omega) (by omega) (fun H1 locs1 I1 => ?_)
  refine lv_icmp_eq (tgt := 1383) hx hb dL_law_913 (by decide) (fun _ => ?_) (fun h => absurd rfl h)
  exact kn u2 _ _ _ _ ls (by omega) (by omega) hu2 I1 hl
set_option maxRecDepth 100000 in
set_option maxHeartbeats 4000000 in
theorem L_24 {Rel : Mm → Prop} (hR0 : ∀ u, Rel u → (mK u 0).1 = 8) {i : Int32} {k : Nat} (hk : k < 512) (A : lAmb p s m args meth c g b L xs) (hs : hwS Rel (fun u => fX8_forget u 0) (fun u => fX9_forget u 45)) (kn : lHead p lch e s m args below meth c g b (k + 1) Q Rel 1383 i) : lHead p lch e s m args below meth c g b k Q Rel 918 i := by
  intro u H locs cells slots ls hc hsl hu I hl
  obtain ⟨r, u1, u2, e1, hk1, e2, hu2⟩ := hs u hu
  have hx := A.1
  have hb := A.2.1
  refine lv_aload_n hx hb dL_law_918 rfl (lv_at hl 1 rfl) ?_
  refine L_callV (as := []) (rest := []) (v := some (.int r)) (u' := u1) (o := 0) A I hl.1 (tX8_forget e1) dL_law_919 hm_X8_forget hv_X8_forget ln_L_115 (hR0 u hu) rfl (Nat.le_of_ble_eq_true rfl) (Nat.le_of_ble_eq_true rfl) (by omega) (by omega) (fun H1 locs1 I1 => ?_)
  refine lv_aload_n hx hb dL_law_922 rfl (lv_at hl 2 rfl) ?_
  refine L_callV (as := []) (rest := [.int r]) (v := some (.int r)) (u' := u2) (o := 45) A I1 hl.1 (tX9_forget e2) dL_law_923 hm_X9_forget hv_X9_forget ln_L_118 hk1 rfl (Nat.le_of_ble_eq_true rfl) (Nat.le_of_ble_eq_true rfl) (by omega) (by omega) (fun H1 locs1 I1 => ?_)
  refine lv_icmp_eq (tgt := 1383) hx hb dL_law_926 (by decide) (fun _ => ?_) (fun h => absurd rfl h)
  exact kn u2 _ _ _ _ ls (by omega) (by omega) hu2 I1 hl
set_option maxRecDepth 100000 in
set_option maxHeartbeats 4000000 in
theorem L_25 {Rel : Mm → Prop} (hR0 : ∀ u, Rel u → (mK u 0).1 = 8) {i : Int32} {k : Nat} (hk : k < 512) (A : lAmb p s m args meth c g b L xs) (hs : hwS Rel (fun u => fX8_probably u 0) (fun u => fX9_probably u 45)) (kn : lHead p lch e s m args below meth c g b (k + 1) Q Rel 1383 i) : lHead p lch e s m args below meth c g b k Q Rel 931 i := by
  intro u H locs cells slots ls hc hsl hu I hl
  obtain ⟨r, u1, u2, e1, hk1, e2, hu2⟩ := hs u hu
  have hx := A.1
  have hb := A.2.1
  refine lv_aload_n hx hb dL_law_931 rfl (lv_at hl 1 rfl) ?_
  refine L_callV (as := []) (rest := []) (v := some (.int r)) (u' := u1) (o := 0) A I hl.1 (tX8_probably e1) dL_law_932 hm_X8_probably hv_X8_probably ln_L_119 (hR0 u hu) rfl (Nat.le_of_ble_eq_true rfl) (Nat.le_of_ble_eq_true rfl) (by omega) (by omega) (fun H1 locs1 I1 => ?_)
  refine lv_aload_n hx hb dL_law_935 rfl (lv_at hl 2 rfl) ?_
  refine L_callV (as := []) (rest := [.int r]) (v := some (.int r)) (u' := u2) (o := 45) A I1 hl.1 (tX9_probably e2) dL_law_936 hm_X9_probably hv_X9_probably ln_L_122 hk1 rfl (Nat.le_of_ble_eq_true rfl) (Nat.le_of_ble_eq_true rfl) (by omega) (by omega) (fun H1 locs1 I1 => ?_)
  refine lv_icmp_eq (tgt := 1383) hx hb dL_law_939 (by decide) (fun _ => ?_) (fun h => absurd rfl h)
  exact kn u2 _ _ _ _ ls (by omega) (by omega) hu2 I1 hl
set_option maxRecDepth 100000 in
set_option maxHeartbeats 4000000 in
theorem L_26 {Rel : Mm → Prop} (hR0 : ∀ u, Rel u → (mK u 0).1 = 8) {i : Int32} {k : Nat} (hk : k < 512) (A : lAmb p s m args meth c g b L xs) (h1 : vp_in (i + 1) L) (hs : ∀ (x1 : Int32), hwS Rel (fun u => fX8_ask u 0 x1) (fun u => fX9_ask u 45 x1)) (kn : lHead p lch e s m args below meth c g b (k + 1) Q Rel 1383 i) : lHead p lch e s m args below meth c g b k Q Rel 944 i := by
  intro u H locs cells slots ls hc hsl hu I hl
  obtain ⟨r, u1, u2, e1, hk1, e2, hu2⟩ := hs (xs (i + 1).toNatClampNeg) u hu
  have hx := A.1
  have hb := A.2.1
  refine lv_aload_n hx hb dL_law_944 rfl (lv_at hl 1 rfl) ?_
  refine lv_aload_n hx hb dL_law_945 rfl (lv_at hl 0 rfl) ?_
  refine lv_iload_n hx hb dL_law_946 rfl (lv_at hl 3 rfl) ?_
  refine lv_iconst (v := 1) hx hb dL_law_947 (by decide) ?_
  refine lv_iadd hx hb dL_law_948 ?_
  refine L_ld A I h1 dL_law_949 ?_
  refine L_callV (as := [.int (xs (i + 1).toNatClampNeg)]) (rest := []) (v := some (.int r)) (u' := u1) (o := 0) A I hl.1 (tX8_ask e1) dL_law_950 hm_X8_ask hv_X8_ask ln_L_123 (hR0 u hu) rfl (Nat.le_of_ble_eq_true rfl) (Nat.le_of_ble_eq_true rfl) (by omega) (by omega) (fun H1 locs1 I1 => ?_)
  refine lv_aload_n hx hb dL_law_953 rfl (lv_at hl 2 rfl) ?_
  refine lv_aload_n hx hb dL_law_954 rfl (lv_at hl 0 rfl) ?_
  refine lv_iload_n hx hb dL_law_955 rfl (lv_at hl 3 rfl) ?_
  refine lv_iconst (v := 1) hx hb dL_law_956 (by decide) ?_
  refine lv_iadd hx hb dL_law_957 ?_
  refine L_ld A I1 h1 dL_law_958 ?_
  refine L_callV (as := [.int (xs (i + 1).toNatClampNeg)]) (rest := [.int r]) (v := some (.int r)) (u' := u2) (o := 45) A I1 hl.1 (tX9_ask e2) dL_law_959 hm_X9_ask hv_X9_ask ln_L_126 hk1 rfl (Nat.le_of_ble_eq_true rfl) (Nat.le_of_ble_eq_true rfl) (by omega) (by omega) (fun H1 locs1 I1 => ?_)
  refine lv_icmp_eq (tgt := 1383) hx hb dL_law_962 (by decide) (fun _ => ?_) (fun h => absurd rfl h)
  exact kn u2 _ _ _ _ ls (by omega) (by omega) hu2 I1 hl
set_option maxRecDepth 100000 in
set_option maxHeartbeats 4000000 in
theorem L_27 {Rel : Mm → Prop} (hR0 : ∀ u, Rel u → (mK u 0).1 = 8) {i : Int32} {k : Nat} (hk : k < 512) (A : lAmb p s m args meth c g b L xs) (h1 : vp_in (i + 1) L) (h2 : vp_in (i + 2) L) (h3 : vp_in (i + 3) L) (hs : ∀ (x1 : Int32) (x2 : Int32) (x3 : Int32), hwS Rel (fun u => fX8_chain u 0 x1 x2 x3) (fun u => fX9_chain u 45 x1 x2 x3)) (kn : lHead p lch e s m args below meth c g b (k + 1) Q Rel 1383 i) : lHead p lch e s m args below meth c g b k Q Rel 967 i := by
  intro u H locs cells slots ls hc hsl hu I hl
  obtain ⟨r, u1, u2, e1, hk1, e2, hu2⟩ := hs (xs (i + 1).toNatClampNeg) (xs (i + 2).toNatClampNeg) (xs (i + 3).toNatClampNeg) u hu
  have hx := A.1
  have hb := A.2.1
  refine lv_aload_n hx hb dL_law_967 rfl (lv_at hl 1 rfl) ?_
  refine lv_aload_n hx hb dL_law_968 rfl (lv_at hl 0 rfl) ?_
  refine lv_iload_n hx hb dL_law_969 rfl (lv_at hl 3 rfl) ?_
  refine lv_iconst (v := 1) hx hb dL_law_970 (by decide) ?_
  refine lv_iadd hx hb dL_law_971 ?_
  refine L_ld A I h1 dL_law_972 ?_
  refine lv_aload_n hx hb dL_law_973 rfl (lv_at hl 0 rfl) ?_
  refine lv_iload_n hx hb dL_law_974 rfl (lv_at hl 3 rfl) ?_
  refine lv_iconst (v := 2) hx hb dL_law_975 (by decide) ?_
  refine lv_iadd hx hb dL_law_976 ?_
  refine L_ld A I h2 dL_law_977 ?_
  refine lv_aload_n hx hb dL_law_978 rfl (lv_at hl 0 rfl) ?_
  refine lv_iload_n hx hb dL_law_979 rfl (lv_at hl 3 rfl) ?_
  refine lv_iconst (v := 3) hx hb dL_law_980 (by decide) ?_
  refine lv_iadd hx hb dL_law_981 ?_
  refine L_ld A I h3 dL_law_982 ?_
  refine L_callV (as := [.int (xs (i + 1).toNatClampNeg), .int (xs (i + 2).toNatClampNeg), .int (xs (i + 3).toNatClampNeg)]) (rest := []) (v := some (.int r)) (u' := u1) (o := 0) A I hl.1 (tX8_chain e1) dL_law_983 hm_X8_chain hv_X8_chain ln_L_127 (hR0 u hu) rfl (Nat.le_of_ble_eq_true rfl) (Nat.le_of_ble_eq_true rfl) (by omega) (by omega) (fun H1 locs1 I1 => ?_)
  refine lv_aload_n hx hb dL_law_986 rfl (lv_at hl 2 rfl) ?_
  refine lv_aload_n hx hb dL_law_987 rfl (lv_at hl 0 rfl) ?_
  refine lv_iload_n hx hb dL_law_988 rfl (lv_at hl 3 rfl) ?_
  refine lv_iconst (v := 1) hx hb dL_law_989 (by decide) ?_
  refine lv_iadd hx hb dL_law_990 ?_
  refine L_ld A I1 h1 dL_law_991 ?_
  refine lv_aload_n hx hb dL_law_992 rfl (lv_at hl 0 rfl) ?_
  refine lv_iload_n hx hb dL_law_993 rfl (lv_at hl 3 rfl) ?_
  refine lv_iconst (v := 2) hx hb dL_law_994 (by decide) ?_
  refine lv_iadd hx hb dL_law_995 ?_
  refine L_ld A I1 h2 dL_law_996 ?_
  refine lv_aload_n hx hb dL_law_997 rfl (lv_at hl 0 rfl) ?_
  refine lv_iload_n hx hb dL_law_998 rfl (lv_at hl 3 rfl) ?_
  refine lv_iconst (v := 3) hx hb dL_law_999 (by decide) ?_
  refine lv_iadd hx hb dL_law_1000 ?_
  refine L_ld A I1 h3 dL_law_1001 ?_
  refine L_callV (as := [.int (xs (i + 1).toNatClampNeg), .int (xs (i + 2).toNatClampNeg), .int (xs (i + 3).toNatClampNeg)]) (rest := [.int r]) (v := some (.int r)) (u' := u2) (o := 45) A I1 hl.1 (tX9_chain e2) dL_law_1002 hm_X9_chain hv_X9_chain ln_L_130 hk1 rfl (Nat.le_of_ble_eq_true rfl) (Nat.le_of_ble_eq_true rfl) (by omega) (by omega) (fun H1 locs1 I1 => ?_)
  refine lv_icmp_eq (tgt := 1383) hx hb dL_law_1005 (by decide) (fun _ => ?_) (fun h => absurd rfl h)
  exact kn u2 _ _ _ _ ls (by omega) (by omega) hu2 I1 hl
set_option maxRecDepth 100000 in
set_option maxHeartbeats 4000000 in
theorem L_28 {Rel : Mm → Prop} (hR0 : ∀ u, Rel u → (mK u 0).1 = 8) {i : Int32} {k : Nat} (hk : k < 512) (A : lAmb p s m args meth c g b L xs) (h1 : vp_in (i + 1) L) (hs : ∀ (x1 : Int32), hwS Rel (fun u => fX8_stilled u 0 x1) (fun u => fX9_stilled u 45 x1)) (kn : lHead p lch e s m args below meth c g b (k + 1) Q Rel 1383 i) : lHead p lch e s m args below meth c g b k Q Rel 1010 i := by
  intro u H locs cells slots ls hc hsl hu I hl
  obtain ⟨r, u1, u2, e1, hk1, e2, hu2⟩ := hs (xs (i + 1).toNatClampNeg) u hu
  have hx := A.1
  have hb := A.2.1
  refine lv_aload_n hx hb dL_law_1010 rfl (lv_at hl 1 rfl) ?_
  refine lv_aload_n hx hb dL_law_1011 rfl (lv_at hl 0 rfl) ?_
  refine lv_iload_n hx hb dL_law_1012 rfl (lv_at hl 3 rfl) ?_
  refine lv_iconst (v := 1) hx hb dL_law_1013 (by decide) ?_
  refine lv_iadd hx hb dL_law_1014 ?_
  refine L_ld A I h1 dL_law_1015 ?_
  refine L_callV (as := [.int (xs (i + 1).toNatClampNeg)]) (rest := []) (v := some (.int r)) (u' := u1) (o := 0) A I hl.1 (tX8_stilled e1) dL_law_1016 hm_X8_stilled hv_X8_stilled ln_L_131 (hR0 u hu) rfl (Nat.le_of_ble_eq_true rfl) (Nat.le_of_ble_eq_true rfl) (by omega) (by omega) (fun H1 locs1 I1 => ?_)
  refine lv_aload_n hx hb dL_law_1019 rfl (lv_at hl 2 rfl) ?_
  refine lv_aload_n hx hb dL_law_1020 rfl (lv_at hl 0 rfl) ?_
  refine lv_iload_n hx hb dL_law_1021 rfl (lv_at hl 3 rfl) ?_
  refine lv_iconst (v := 1) hx hb dL_law_1022 (by decide) ?_
  refine lv_iadd hx hb dL_law_1023 ?_
  refine L_ld A I1 h1 dL_law_1024 ?_
  refine L_callV (as := [.int (xs (i + 1).toNatClampNeg)]) (rest := [.int r]) (v := some (.int r)) (u' := u2) (o := 45) A I1 hl.1 (tX9_stilled e2) dL_law_1025 hm_X9_stilled hv_X9_stilled ln_L_134 hk1 rfl (Nat.le_of_ble_eq_true rfl) (Nat.le_of_ble_eq_true rfl) (by omega) (by omega) (fun H1 locs1 I1 => ?_)
  refine lv_icmp_eq (tgt := 1383) hx hb dL_law_1028 (by decide) (fun _ => ?_) (fun h => absurd rfl h)
  exact kn u2 _ _ _ _ ls (by omega) (by omega) hu2 I1 hl
set_option maxRecDepth 100000 in
set_option maxHeartbeats 4000000 in
theorem L_29 {Rel : Mm → Prop} (hR0 : ∀ u, Rel u → (mK u 0).1 = 8) {i : Int32} {k : Nat} (hk : k < 512) (A : lAmb p s m args meth c g b L xs) (h1 : vp_in (i + 1) L) (h2 : vp_in (i + 2) L) (hs : ∀ (x1 : Int32) (x2 : Int32), hwS Rel (fun u => fX8_pushed u 0 x1 x2) (fun u => fX9_pushed u 45 x1 x2)) (kn : lHead p lch e s m args below meth c g b (k + 1) Q Rel 1383 i) : lHead p lch e s m args below meth c g b k Q Rel 1033 i := by
  intro u H locs cells slots ls hc hsl hu I hl
  obtain ⟨r, u1, u2, e1, hk1, e2, hu2⟩ := hs (xs (i + 1).toNatClampNeg) (xs (i + 2).toNatClampNeg) u hu
  have hx := A.1
  have hb := A.2.1
  refine lv_aload_n hx hb dL_law_1033 rfl (lv_at hl 1 rfl) ?_
  refine lv_aload_n hx hb dL_law_1034 rfl (lv_at hl 0 rfl) ?_
  refine lv_iload_n hx hb dL_law_1035 rfl (lv_at hl 3 rfl) ?_
  refine lv_iconst (v := 1) hx hb dL_law_1036 (by decide) ?_
  refine lv_iadd hx hb dL_law_1037 ?_
  refine L_ld A I h1 dL_law_1038 ?_
  refine lv_aload_n hx hb dL_law_1039 rfl (lv_at hl 0 rfl) ?_
  refine lv_iload_n hx hb dL_law_1040 rfl (lv_at hl 3 rfl) ?_
  refine lv_iconst (v := 2) hx hb dL_law_1041 (by decide) ?_
  refine lv_iadd hx hb dL_law_1042 ?_
  refine L_ld A I h2 dL_law_1043 ?_
  refine L_callV (as := [.int (xs (i + 1).toNatClampNeg), .int (xs (i + 2).toNatClampNeg)]) (rest := []) (v := some (.int r)) (u' := u1) (o := 0) A I hl.1 (tX8_pushed e1) dL_law_1044 hm_X8_pushed hv_X8_pushed ln_L_135 (hR0 u hu) rfl (Nat.le_of_ble_eq_true rfl) (Nat.le_of_ble_eq_true rfl) (by omega) (by omega) (fun H1 locs1 I1 => ?_)
  refine lv_aload_n hx hb dL_law_1047 rfl (lv_at hl 2 rfl) ?_
  refine lv_aload_n hx hb dL_law_1048 rfl (lv_at hl 0 rfl) ?_
  refine lv_iload_n hx hb dL_law_1049 rfl (lv_at hl 3 rfl) ?_
  refine lv_iconst (v := 1) hx hb dL_law_1050 (by decide) ?_
  refine lv_iadd hx hb dL_law_1051 ?_
  refine L_ld A I1 h1 dL_law_1052 ?_
  refine lv_aload_n hx hb dL_law_1053 rfl (lv_at hl 0 rfl) ?_
  refine lv_iload_n hx hb dL_law_1054 rfl (lv_at hl 3 rfl) ?_
  refine lv_iconst (v := 2) hx hb dL_law_1055 (by decide) ?_
  refine lv_iadd hx hb dL_law_1056 ?_
  refine L_ld A I1 h2 dL_law_1057 ?_
  refine L_callV (as := [.int (xs (i + 1).toNatClampNeg), .int (xs (i + 2).toNatClampNeg)]) (rest := [.int r]) (v := some (.int r)) (u' := u2) (o := 45) A I1 hl.1 (tX9_pushed e2) dL_law_1058 hm_X9_pushed hv_X9_pushed ln_L_138 hk1 rfl (Nat.le_of_ble_eq_true rfl) (Nat.le_of_ble_eq_true rfl) (by omega) (by omega) (fun H1 locs1 I1 => ?_)
  refine lv_icmp_eq (tgt := 1383) hx hb dL_law_1061 (by decide) (fun _ => ?_) (fun h => absurd rfl h)
  exact kn u2 _ _ _ _ ls (by omega) (by omega) hu2 I1 hl
set_option maxRecDepth 100000 in
set_option maxHeartbeats 4000000 in
theorem L_30 {Rel : Mm → Prop} (hR0 : ∀ u, Rel u → (mK u 0).1 = 8) {i : Int32} {k : Nat} (hk : k < 512) (A : lAmb p s m args meth c g b L xs) (h1 : vp_in (i + 1) L) (hs : ∀ (x1 : Int32), hwS Rel (fun u => fX8_level u 0 x1) (fun u => fX9_level u 45 x1)) (kn : lHead p lch e s m args below meth c g b (k + 1) Q Rel 1383 i) : lHead p lch e s m args below meth c g b k Q Rel 1066 i := by
  intro u H locs cells slots ls hc hsl hu I hl
  obtain ⟨r, u1, u2, e1, hk1, e2, hu2⟩ := hs (xs (i + 1).toNatClampNeg) u hu
  have hx := A.1
  have hb := A.2.1
  refine lv_aload_n hx hb dL_law_1066 rfl (lv_at hl 1 rfl) ?_
  refine lv_aload_n hx hb dL_law_1067 rfl (lv_at hl 0 rfl) ?_
  refine lv_iload_n hx hb dL_law_1068 rfl (lv_at hl 3 rfl) ?_
  refine lv_iconst (v := 1) hx hb dL_law_1069 (by decide) ?_
  refine lv_iadd hx hb dL_law_1070 ?_
  refine L_ld A I h1 dL_law_1071 ?_
  refine L_callV (as := [.int (xs (i + 1).toNatClampNeg)]) (rest := []) (v := some (.int r)) (u' := u1) (o := 0) A I hl.1 (tX8_level e1) dL_law_1072 hm_X8_level hv_X8_level ln_L_139 (hR0 u hu) rfl (Nat.le_of_ble_eq_true rfl) (Nat.le_of_ble_eq_true rfl) (by omega) (by omega) (fun H1 locs1 I1 => ?_)
  refine lv_aload_n hx hb dL_law_1075 rfl (lv_at hl 2 rfl) ?_
  refine lv_aload_n hx hb dL_law_1076 rfl (lv_at hl 0 rfl) ?_
  refine lv_iload_n hx hb dL_law_1077 rfl (lv_at hl 3 rfl) ?_
  refine lv_iconst (v := 1) hx hb dL_law_1078 (by decide) ?_
  refine lv_iadd hx hb dL_law_1079 ?_
  refine L_ld A I1 h1 dL_law_1080 ?_
  refine L_callV (as := [.int (xs (i + 1).toNatClampNeg)]) (rest := [.int r]) (v := some (.int r)) (u' := u2) (o := 45) A I1 hl.1 (tX9_level e2) dL_law_1081 hm_X9_level hv_X9_level ln_L_142 hk1 rfl (Nat.le_of_ble_eq_true rfl) (Nat.le_of_ble_eq_true rfl) (by omega) (by omega) (fun H1 locs1 I1 => ?_)
  refine lv_icmp_eq (tgt := 1383) hx hb dL_law_1084 (by decide) (fun _ => ?_) (fun h => absurd rfl h)
  exact kn u2 _ _ _ _ ls (by omega) (by omega) hu2 I1 hl
set_option maxRecDepth 100000 in
set_option maxHeartbeats 4000000 in
theorem L_31 {Rel : Mm → Prop} (hR0 : ∀ u, Rel u → (mK u 0).1 = 8) {i : Int32} {k : Nat} (hk : k < 512) (A : lAmb p s m args meth c g b L xs) (h1 : vp_in (i + 1) L) (h2 : vp_in (i + 2) L) (hs : ∀ (x1 : Int32) (x2 : Int32), hwS Rel (fun u => fX8_posts u 0 x1 x2) (fun u => fX9_posts u 45 x1 x2)) (kn : lHead p lch e s m args below meth c g b (k + 1) Q Rel 1383 i) : lHead p lch e s m args below meth c g b k Q Rel 1089 i := by
  intro u H locs cells slots ls hc hsl hu I hl
  obtain ⟨r, u1, u2, e1, hk1, e2, hu2⟩ := hs (xs (i + 1).toNatClampNeg) (xs (i + 2).toNatClampNeg) u hu
  have hx := A.1
  have hb := A.2.1
  refine lv_aload_n hx hb dL_law_1089 rfl (lv_at hl 1 rfl) ?_
  refine lv_aload_n hx hb dL_law_1090 rfl (lv_at hl 0 rfl) ?_
  refine lv_iload_n hx hb dL_law_1091 rfl (lv_at hl 3 rfl) ?_
  refine lv_iconst (v := 1) hx hb dL_law_1092 (by decide) ?_
  refine lv_iadd hx hb dL_law_1093 ?_
  refine L_ld A I h1 dL_law_1094 ?_
  refine lv_aload_n hx hb dL_law_1095 rfl (lv_at hl 0 rfl) ?_
  refine lv_iload_n hx hb dL_law_1096 rfl (lv_at hl 3 rfl) ?_
  refine lv_iconst (v := 2) hx hb dL_law_1097 (by decide) ?_
  refine lv_iadd hx hb dL_law_1098 ?_
  refine L_ld A I h2 dL_law_1099 ?_
  refine L_callV (as := [.int (xs (i + 1).toNatClampNeg), .int (xs (i + 2).toNatClampNeg)]) (rest := []) (v := some (.int r)) (u' := u1) (o := 0) A I hl.1 (tX8_posts e1) dL_law_1100 hm_X8_posts hv_X8_posts ln_L_143 (hR0 u hu) rfl (Nat.le_of_ble_eq_true rfl) (Nat.le_of_ble_eq_true rfl) (by omega) (by omega) (fun H1 locs1 I1 => ?_)
  refine lv_aload_n hx hb dL_law_1103 rfl (lv_at hl 2 rfl) ?_
  refine lv_aload_n hx hb dL_law_1104 rfl (lv_at hl 0 rfl) ?_
  refine lv_iload_n hx hb dL_law_1105 rfl (lv_at hl 3 rfl) ?_
  refine lv_iconst (v := 1) hx hb dL_law_1106 (by decide) ?_
  refine lv_iadd hx hb dL_law_1107 ?_
  refine L_ld A I1 h1 dL_law_1108 ?_
  refine lv_aload_n hx hb dL_law_1109 rfl (lv_at hl 0 rfl) ?_
  refine lv_iload_n hx hb dL_law_1110 rfl (lv_at hl 3 rfl) ?_
  refine lv_iconst (v := 2) hx hb dL_law_1111 (by decide) ?_
  refine lv_iadd hx hb dL_law_1112 ?_
  refine L_ld A I1 h2 dL_law_1113 ?_
  refine L_callV (as := [.int (xs (i + 1).toNatClampNeg), .int (xs (i + 2).toNatClampNeg)]) (rest := [.int r]) (v := some (.int r)) (u' := u2) (o := 45) A I1 hl.1 (tX9_posts e2) dL_law_1114 hm_X9_posts hv_X9_posts ln_L_146 hk1 rfl (Nat.le_of_ble_eq_true rfl) (Nat.le_of_ble_eq_true rfl) (by omega) (by omega) (fun H1 locs1 I1 => ?_)
  refine lv_icmp_eq (tgt := 1383) hx hb dL_law_1117 (by decide) (fun _ => ?_) (fun h => absurd rfl h)
  exact kn u2 _ _ _ _ ls (by omega) (by omega) hu2 I1 hl
set_option maxRecDepth 100000 in
set_option maxHeartbeats 4000000 in
theorem L_32 {Rel : Mm → Prop} (hR0 : ∀ u, Rel u → (mK u 0).1 = 8) {i : Int32} {k : Nat} (hk : k < 512) (A : lAmb p s m args meth c g b L xs) (h1 : vp_in (i + 1) L) (h2 : vp_in (i + 2) L) (h3 : vp_in (i + 3) L) (h4 : vp_in (i + 4) L) (hs : ∀ (x1 : Int32) (x2 : Int32) (x3 : Int32) (x4 : Int32), hwS Rel (fun u => fX8_way u 0 x1 x2 x3 x4) (fun u => fX9_way u 45 x1 x2 x3 x4)) (kn : lHead p lch e s m args below meth c g b (k + 1) Q Rel 1383 i) : lHead p lch e s m args below meth c g b k Q Rel 1122 i := by
  intro u H locs cells slots ls hc hsl hu I hl
  obtain ⟨r, u1, u2, e1, hk1, e2, hu2⟩ := hs (xs (i + 1).toNatClampNeg) (xs (i + 2).toNatClampNeg) (xs (i + 3).toNatClampNeg) (xs (i + 4).toNatClampNeg) u hu
  have hx := A.1
  have hb := A.2.1
  refine lv_aload_n hx hb dL_law_1122 rfl (lv_at hl 1 rfl) ?_
  refine lv_aload_n hx hb dL_law_1123 rfl (lv_at hl 0 rfl) ?_
  refine lv_iload_n hx hb dL_law_1124 rfl (lv_at hl 3 rfl) ?_
  refine lv_iconst (v := 1) hx hb dL_law_1125 (by decide) ?_
  refine lv_iadd hx hb dL_law_1126 ?_
  refine L_ld A I h1 dL_law_1127 ?_
  refine lv_aload_n hx hb dL_law_1128 rfl (lv_at hl 0 rfl) ?_
  refine lv_iload_n hx hb dL_law_1129 rfl (lv_at hl 3 rfl) ?_
  refine lv_iconst (v := 2) hx hb dL_law_1130 (by decide) ?_
  refine lv_iadd hx hb dL_law_1131 ?_
  refine L_ld A I h2 dL_law_1132 ?_
  refine lv_aload_n hx hb dL_law_1133 rfl (lv_at hl 0 rfl) ?_
  refine lv_iload_n hx hb dL_law_1134 rfl (lv_at hl 3 rfl) ?_
  refine lv_iconst (v := 3) hx hb dL_law_1135 (by decide) ?_
  refine lv_iadd hx hb dL_law_1136 ?_
  refine L_ld A I h3 dL_law_1137 ?_
  refine lv_aload_n hx hb dL_law_1138 rfl (lv_at hl 0 rfl) ?_
  refine lv_iload_n hx hb dL_law_1139 rfl (lv_at hl 3 rfl) ?_
  refine lv_iconst (v := 4) hx hb dL_law_1140 (by decide) ?_
  refine lv_iadd hx hb dL_law_1141 ?_
  refine L_ld A I h4 dL_law_1142 ?_
  refine L_callV (as := [.int (xs (i + 1).toNatClampNeg), .int (xs (i + 2).toNatClampNeg), .int (xs (i + 3).toNatClampNeg), .int (xs (i + 4).toNatClampNeg)]) (rest := []) (v := some (.int r)) (u' := u1) (o := 0) A I hl.1 (tX8_way e1) dL_law_1143 hm_X8_way hv_X8_way ln_L_147 (hR0 u hu) rfl (Nat.le_of_ble_eq_true rfl) (Nat.le_of_ble_eq_true rfl) (by omega) (by omega) (fun H1 locs1 I1 => ?_)
  refine lv_aload_n hx hb dL_law_1146 rfl (lv_at hl 2 rfl) ?_
  refine lv_aload_n hx hb dL_law_1147 rfl (lv_at hl 0 rfl) ?_
  refine lv_iload_n hx hb dL_law_1148 rfl (lv_at hl 3 rfl) ?_
  refine lv_iconst (v := 1) hx hb dL_law_1149 (by decide) ?_
  refine lv_iadd hx hb dL_law_1150 ?_
  refine L_ld A I1 h1 dL_law_1151 ?_
  refine lv_aload_n hx hb dL_law_1152 rfl (lv_at hl 0 rfl) ?_
  refine lv_iload_n hx hb dL_law_1153 rfl (lv_at hl 3 rfl) ?_
  refine lv_iconst (v := 2) hx hb dL_law_1154 (by decide) ?_
  refine lv_iadd hx hb dL_law_1155 ?_
  refine L_ld A I1 h2 dL_law_1156 ?_
  refine lv_aload_n hx hb dL_law_1157 rfl (lv_at hl 0 rfl) ?_
  refine lv_iload_n hx hb dL_law_1158 rfl (lv_at hl 3 rfl) ?_
  refine lv_iconst (v := 3) hx hb dL_law_1159 (by decide) ?_
  refine lv_iadd hx hb dL_law_1160 ?_
  refine L_ld A I1 h3 dL_law_1161 ?_
  refine lv_aload_n hx hb dL_law_1162 rfl (lv_at hl 0 rfl) ?_
  refine lv_iload_n hx hb dL_law_1163 rfl (lv_at hl 3 rfl) ?_
  refine lv_iconst (v := 4) hx hb dL_law_1164 (by decide) ?_
  refine lv_iadd hx hb dL_law_1165 ?_
  refine L_ld A I1 h4 dL_law_1166 ?_
  refine L_callV (as := [.int (xs (i + 1).toNatClampNeg), .int (xs (i + 2).toNatClampNeg), .int (xs (i + 3).toNatClampNeg), .int (xs (i + 4).toNatClampNeg)]) (rest := [.int r]) (v := some (.int r)) (u' := u2) (o := 45) A I1 hl.1 (tX9_way e2) dL_law_1167 hm_X9_way hv_X9_way ln_L_150 hk1 rfl (Nat.le_of_ble_eq_true rfl) (Nat.le_of_ble_eq_true rfl) (by omega) (by omega) (fun H1 locs1 I1 => ?_)
  refine lv_icmp_eq (tgt := 1383) hx hb dL_law_1170 (by decide) (fun _ => ?_) (fun h => absurd rfl h)
  exact kn u2 _ _ _ _ ls (by omega) (by omega) hu2 I1 hl
set_option maxRecDepth 100000 in
set_option maxHeartbeats 4000000 in
theorem L_33 {Rel : Mm → Prop} (hR0 : ∀ u, Rel u → (mK u 0).1 = 8) {i : Int32} {k : Nat} (hk : k < 512) (A : lAmb p s m args meth c g b L xs) (h1 : vp_in (i + 1) L) (hs : ∀ (x1 : Int32), hwS Rel (fun u => fX8_holds u 0 x1) (fun u => fX9_holds u 45 x1)) (kn : lHead p lch e s m args below meth c g b (k + 1) Q Rel 1383 i) : lHead p lch e s m args below meth c g b k Q Rel 1175 i := by
  intro u H locs cells slots ls hc hsl hu I hl
  obtain ⟨r, u1, u2, e1, hk1, e2, hu2⟩ := hs (xs (i + 1).toNatClampNeg) u hu
  have hx := A.1
  have hb := A.2.1
  refine lv_aload_n hx hb dL_law_1175 rfl (lv_at hl 1 rfl) ?_
  refine lv_aload_n hx hb dL_law_1176 rfl (lv_at hl 0 rfl) ?_
  refine lv_iload_n hx hb dL_law_1177 rfl (lv_at hl 3 rfl) ?_
  refine lv_iconst (v := 1) hx hb dL_law_1178 (by decide) ?_
  refine lv_iadd hx hb dL_law_1179 ?_
  refine L_ld A I h1 dL_law_1180 ?_
  refine L_callV (as := [.int (xs (i + 1).toNatClampNeg)]) (rest := []) (v := some (.long r)) (u' := u1) (o := 0) A I hl.1 (tX8_holds e1) dL_law_1181 hm_X8_holds hv_X8_holds ln_L_151 (hR0 u hu) rfl (Nat.le_of_ble_eq_true rfl) (Nat.le_of_ble_eq_true rfl) (by omega) (by omega) (fun H1 locs1 I1 => ?_)
  refine lv_aload_n hx hb dL_law_1184 rfl (lv_at hl 2 rfl) ?_
  refine lv_aload_n hx hb dL_law_1185 rfl (lv_at hl 0 rfl) ?_
  refine lv_iload_n hx hb dL_law_1186 rfl (lv_at hl 3 rfl) ?_
  refine lv_iconst (v := 1) hx hb dL_law_1187 (by decide) ?_
  refine lv_iadd hx hb dL_law_1188 ?_
  refine L_ld A I1 h1 dL_law_1189 ?_
  refine L_callV (as := [.int (xs (i + 1).toNatClampNeg)]) (rest := [.long r]) (v := some (.long r)) (u' := u2) (o := 45) A I1 hl.1 (tX9_holds e2) dL_law_1190 hm_X9_holds hv_X9_holds ln_L_155 hk1 rfl (Nat.le_of_ble_eq_true rfl) (Nat.le_of_ble_eq_true rfl) (by omega) (by omega) (fun H1 locs1 I1 => ?_)
  refine W.lcmp hx hb dL_law_1193 ?_
  refine lv_if_eq (tgt := 1383) hx hb dL_law_1194 (by decide) (fun _ => ?_) (fun h => absurd (show lg_cmp r r = 0 by simp [lg_cmp]) h)
  exact kn u2 _ _ _ _ ls (by omega) (by omega) hu2 I1 hl
set_option maxRecDepth 100000 in
set_option maxHeartbeats 4000000 in
theorem L_34 {Rel : Mm → Prop} (hR0 : ∀ u, Rel u → (mK u 0).1 = 8) {i : Int32} {k : Nat} (hk : k < 512) (A : lAmb p s m args meth c g b L xs) (hs : hwS Rel (fun u => fX8_which u 0) (fun u => fX9_which u 45)) (kn : lHead p lch e s m args below meth c g b (k + 1) Q Rel 1383 i) : lHead p lch e s m args below meth c g b k Q Rel 1199 i := by
  intro u H locs cells slots ls hc hsl hu I hl
  obtain ⟨r, u1, u2, e1, hk1, e2, hu2⟩ := hs u hu
  have hx := A.1
  have hb := A.2.1
  refine lv_aload_n hx hb dL_law_1199 rfl (lv_at hl 1 rfl) ?_
  refine L_callV (as := []) (rest := []) (v := some (.int r)) (u' := u1) (o := 0) A I hl.1 (tX8_which e1) dL_law_1200 hm_X8_which hv_X8_which ln_L_156 (hR0 u hu) rfl (Nat.le_of_ble_eq_true rfl) (Nat.le_of_ble_eq_true rfl) (by omega) (by omega) (fun H1 locs1 I1 => ?_)
  refine lv_aload_n hx hb dL_law_1203 rfl (lv_at hl 2 rfl) ?_
  refine L_callV (as := []) (rest := [.int r]) (v := some (.int r)) (u' := u2) (o := 45) A I1 hl.1 (tX9_which e2) dL_law_1204 hm_X9_which hv_X9_which ln_L_159 hk1 rfl (Nat.le_of_ble_eq_true rfl) (Nat.le_of_ble_eq_true rfl) (by omega) (by omega) (fun H1 locs1 I1 => ?_)
  refine lv_icmp_eq (tgt := 1383) hx hb dL_law_1207 (by decide) (fun _ => ?_) (fun h => absurd rfl h)
  exact kn u2 _ _ _ _ ls (by omega) (by omega) hu2 I1 hl
set_option maxRecDepth 100000 in
set_option maxHeartbeats 4000000 in
theorem L_35 {Rel : Mm → Prop} (hR0 : ∀ u, Rel u → (mK u 0).1 = 8) {i : Int32} {k : Nat} (hk : k < 512) (A : lAmb p s m args meth c g b L xs) (h1 : vp_in (i + 1) L) (hs : ∀ (x1 : Int32), hwS Rel (fun u => fX8_compare u 0 x1) (fun u => fX9_compare u 45 x1)) (kn : lHead p lch e s m args below meth c g b (k + 1) Q Rel 1383 i) : lHead p lch e s m args below meth c g b k Q Rel 1212 i := by
  intro u H locs cells slots ls hc hsl hu I hl
  obtain ⟨r, u1, u2, e1, hk1, e2, hu2⟩ := hs (xs (i + 1).toNatClampNeg) u hu
  have hx := A.1
  have hb := A.2.1
  refine lv_aload_n hx hb dL_law_1212 rfl (lv_at hl 1 rfl) ?_
  refine lv_aload_n hx hb dL_law_1213 rfl (lv_at hl 0 rfl) ?_
  refine lv_iload_n hx hb dL_law_1214 rfl (lv_at hl 3 rfl) ?_
  refine lv_iconst (v := 1) hx hb dL_law_1215 (by decide) ?_
  refine lv_iadd hx hb dL_law_1216 ?_
  refine L_ld A I h1 dL_law_1217 ?_
  refine L_callV (as := [.int (xs (i + 1).toNatClampNeg)]) (rest := []) (v := some (.int r)) (u' := u1) (o := 0) A I hl.1 (tX8_compare e1) dL_law_1218 hm_X8_compare hv_X8_compare ln_L_160 (hR0 u hu) rfl (Nat.le_of_ble_eq_true rfl) (Nat.le_of_ble_eq_true rfl) (by omega) (by omega) (fun H1 locs1 I1 => ?_)
  refine lv_aload_n hx hb dL_law_1221 rfl (lv_at hl 2 rfl) ?_
  refine lv_aload_n hx hb dL_law_1222 rfl (lv_at hl 0 rfl) ?_
  refine lv_iload_n hx hb dL_law_1223 rfl (lv_at hl 3 rfl) ?_
  refine lv_iconst (v := 1) hx hb dL_law_1224 (by decide) ?_
  refine lv_iadd hx hb dL_law_1225 ?_
  refine L_ld A I1 h1 dL_law_1226 ?_
  refine L_callV (as := [.int (xs (i + 1).toNatClampNeg)]) (rest := [.int r]) (v := some (.int r)) (u' := u2) (o := 45) A I1 hl.1 (tX9_compare e2) dL_law_1227 hm_X9_compare hv_X9_compare ln_L_163 hk1 rfl (Nat.le_of_ble_eq_true rfl) (Nat.le_of_ble_eq_true rfl) (by omega) (by omega) (fun H1 locs1 I1 => ?_)
  refine lv_icmp_eq (tgt := 1383) hx hb dL_law_1230 (by decide) (fun _ => ?_) (fun h => absurd rfl h)
  exact kn u2 _ _ _ _ ls (by omega) (by omega) hu2 I1 hl
set_option maxRecDepth 100000 in
set_option maxHeartbeats 4000000 in
theorem L_36 {Rel : Mm → Prop} (hR0 : ∀ u, Rel u → (mK u 0).1 = 8) {i : Int32} {k : Nat} (hk : k < 512) (A : lAmb p s m args meth c g b L xs) (h1 : vp_in (i + 1) L) (h2 : vp_in (i + 2) L) (hs : ∀ (x1 : Int32) (x2 : Int32), hwS Rel (fun u => fX8_decades u 0 x1 x2) (fun u => fX9_decades u 45 x1 x2)) (kn : lHead p lch e s m args below meth c g b (k + 1) Q Rel 1383 i) : lHead p lch e s m args below meth c g b k Q Rel 1235 i := by
  intro u H locs cells slots ls hc hsl hu I hl
  obtain ⟨r, u1, u2, e1, hk1, e2, hu2⟩ := hs (xs (i + 1).toNatClampNeg) (xs (i + 2).toNatClampNeg) u hu
  have hx := A.1
  have hb := A.2.1
  refine lv_aload_n hx hb dL_law_1235 rfl (lv_at hl 1 rfl) ?_
  refine lv_aload_n hx hb dL_law_1236 rfl (lv_at hl 0 rfl) ?_
  refine lv_iload_n hx hb dL_law_1237 rfl (lv_at hl 3 rfl) ?_
  refine lv_iconst (v := 1) hx hb dL_law_1238 (by decide) ?_
  refine lv_iadd hx hb dL_law_1239 ?_
  refine L_ld A I h1 dL_law_1240 ?_
  refine lv_aload_n hx hb dL_law_1241 rfl (lv_at hl 0 rfl) ?_
  refine lv_iload_n hx hb dL_law_1242 rfl (lv_at hl 3 rfl) ?_
  refine lv_iconst (v := 2) hx hb dL_law_1243 (by decide) ?_
  refine lv_iadd hx hb dL_law_1244 ?_
  refine L_ld A I h2 dL_law_1245 ?_
  refine L_callV (as := [.int (xs (i + 1).toNatClampNeg), .int (xs (i + 2).toNatClampNeg)]) (rest := []) (v := some (.int r)) (u' := u1) (o := 0) A I hl.1 (tX8_decades e1) dL_law_1246 hm_X8_decades hv_X8_decades ln_L_164 (hR0 u hu) rfl (Nat.le_of_ble_eq_true rfl) (Nat.le_of_ble_eq_true rfl) (by omega) (by omega) (fun H1 locs1 I1 => ?_)
  refine lv_aload_n hx hb dL_law_1249 rfl (lv_at hl 2 rfl) ?_
  refine lv_aload_n hx hb dL_law_1250 rfl (lv_at hl 0 rfl) ?_
  refine lv_iload_n hx hb dL_law_1251 rfl (lv_at hl 3 rfl) ?_
  refine lv_iconst (v := 1) hx hb dL_law_1252 (by decide) ?_
  refine lv_iadd hx hb dL_law_1253 ?_
  refine L_ld A I1 h1 dL_law_1254 ?_
  refine lv_aload_n hx hb dL_law_1255 rfl (lv_at hl 0 rfl) ?_
  refine lv_iload_n hx hb dL_law_1256 rfl (lv_at hl 3 rfl) ?_
  refine lv_iconst (v := 2) hx hb dL_law_1257 (by decide) ?_
  refine lv_iadd hx hb dL_law_1258 ?_
  refine L_ld A I1 h2 dL_law_1259 ?_
  refine L_callV (as := [.int (xs (i + 1).toNatClampNeg), .int (xs (i + 2).toNatClampNeg)]) (rest := [.int r]) (v := some (.int r)) (u' := u2) (o := 45) A I1 hl.1 (tX9_decades e2) dL_law_1260 hm_X9_decades hv_X9_decades ln_L_167 hk1 rfl (Nat.le_of_ble_eq_true rfl) (Nat.le_of_ble_eq_true rfl) (by omega) (by omega) (fun H1 locs1 I1 => ?_)
  refine lv_icmp_eq (tgt := 1383) hx hb dL_law_1263 (by decide) (fun _ => ?_) (fun h => absurd rfl h)
  exact kn u2 _ _ _ _ ls (by omega) (by omega) hu2 I1 hl
set_option maxRecDepth 100000 in
set_option maxHeartbeats 4000000 in
theorem L_37 {Rel : Mm → Prop} (hR0 : ∀ u, Rel u → (mK u 0).1 = 8) {i : Int32} {k : Nat} (hk : k < 512) (A : lAmb p s m args meth c g b L xs) (h1 : vp_in (i + 1) L) (h2 : vp_in (i + 2) L) (hs : ∀ (x1 : Int32) (x2 : Int32), hwS Rel (fun u => fX8_drawn u 0 x1 x2) (fun u => fX9_drawn u 45 x1 x2)) (kn : lHead p lch e s m args below meth c g b (k + 1) Q Rel 1383 i) : lHead p lch e s m args below meth c g b k Q Rel 1268 i := by
  intro u H locs cells slots ls hc hsl hu I hl
  obtain ⟨r, u1, u2, e1, hk1, e2, hu2⟩ := hs (xs (i + 1).toNatClampNeg) (xs (i + 2).toNatClampNeg) u hu
  have hx := A.1
  have hb := A.2.1
  refine lv_aload_n hx hb dL_law_1268 rfl (lv_at hl 1 rfl) ?_
  refine lv_aload_n hx hb dL_law_1269 rfl (lv_at hl 0 rfl) ?_
  refine lv_iload_n hx hb dL_law_1270 rfl (lv_at hl 3 rfl) ?_
  refine lv_iconst (v := 1) hx hb dL_law_1271 (by decide) ?_
  refine lv_iadd hx hb dL_law_1272 ?_
  refine L_ld A I h1 dL_law_1273 ?_
  refine lv_aload_n hx hb dL_law_1274 rfl (lv_at hl 0 rfl) ?_
  refine lv_iload_n hx hb dL_law_1275 rfl (lv_at hl 3 rfl) ?_
  refine lv_iconst (v := 2) hx hb dL_law_1276 (by decide) ?_
  refine lv_iadd hx hb dL_law_1277 ?_
  refine L_ld A I h2 dL_law_1278 ?_
  refine L_callV (as := [.int (xs (i + 1).toNatClampNeg), .int (xs (i + 2).toNatClampNeg)]) (rest := []) (v := some (.int r)) (u' := u1) (o := 0) A I hl.1 (tX8_drawn e1) dL_law_1279 hm_X8_drawn hv_X8_drawn ln_L_168 (hR0 u hu) rfl (Nat.le_of_ble_eq_true rfl) (Nat.le_of_ble_eq_true rfl) (by omega) (by omega) (fun H1 locs1 I1 => ?_)
  refine lv_aload_n hx hb dL_law_1282 rfl (lv_at hl 2 rfl) ?_
  refine lv_aload_n hx hb dL_law_1283 rfl (lv_at hl 0 rfl) ?_
  refine lv_iload_n hx hb dL_law_1284 rfl (lv_at hl 3 rfl) ?_
  refine lv_iconst (v := 1) hx hb dL_law_1285 (by decide) ?_
  refine lv_iadd hx hb dL_law_1286 ?_
  refine L_ld A I1 h1 dL_law_1287 ?_
  refine lv_aload_n hx hb dL_law_1288 rfl (lv_at hl 0 rfl) ?_
  refine lv_iload_n hx hb dL_law_1289 rfl (lv_at hl 3 rfl) ?_
  refine lv_iconst (v := 2) hx hb dL_law_1290 (by decide) ?_
  refine lv_iadd hx hb dL_law_1291 ?_
  refine L_ld A I1 h2 dL_law_1292 ?_
  refine L_callV (as := [.int (xs (i + 1).toNatClampNeg), .int (xs (i + 2).toNatClampNeg)]) (rest := [.int r]) (v := some (.int r)) (u' := u2) (o := 45) A I1 hl.1 (tX9_drawn e2) dL_law_1293 hm_X9_drawn hv_X9_drawn ln_L_171 hk1 rfl (Nat.le_of_ble_eq_true rfl) (Nat.le_of_ble_eq_true rfl) (by omega) (by omega) (fun H1 locs1 I1 => ?_)
  refine lv_icmp_eq (tgt := 1383) hx hb dL_law_1296 (by decide) (fun _ => ?_) (fun h => absurd rfl h)
  exact kn u2 _ _ _ _ ls (by omega) (by omega) hu2 I1 hl
set_option maxRecDepth 100000 in
set_option maxHeartbeats 4000000 in
theorem L_38 {Rel : Mm → Prop} (hR0 : ∀ u, Rel u → (mK u 0).1 = 8) {i : Int32} {k : Nat} (hk : k < 512) (A : lAmb p s m args meth c g b L xs) (h1 : vp_in (i + 1) L) (hs : ∀ (x1 : Int32), hwS Rel (fun u => fX8_image u 0 x1) (fun u => fX9_image u 45 x1)) (kn : lHead p lch e s m args below meth c g b (k + 1) Q Rel 1383 i) : lHead p lch e s m args below meth c g b k Q Rel 1301 i := by
  intro u H locs cells slots ls hc hsl hu I hl
  obtain ⟨r, u1, u2, e1, hk1, e2, hu2⟩ := hs (xs (i + 1).toNatClampNeg) u hu
  have hx := A.1
  have hb := A.2.1
  refine lv_aload_n hx hb dL_law_1301 rfl (lv_at hl 1 rfl) ?_
  refine lv_aload_n hx hb dL_law_1302 rfl (lv_at hl 0 rfl) ?_
  refine lv_iload_n hx hb dL_law_1303 rfl (lv_at hl 3 rfl) ?_
  refine lv_iconst (v := 1) hx hb dL_law_1304 (by decide) ?_
  refine lv_iadd hx hb dL_law_1305 ?_
  refine L_ld A I h1 dL_law_1306 ?_
  refine L_callV (as := [.int (xs (i + 1).toNatClampNeg)]) (rest := []) (v := some (.int r)) (u' := u1) (o := 0) A I hl.1 (tX8_image e1) dL_law_1307 hm_X8_image hv_X8_image ln_L_172 (hR0 u hu) rfl (Nat.le_of_ble_eq_true rfl) (Nat.le_of_ble_eq_true rfl) (by omega) (by omega) (fun H1 locs1 I1 => ?_)
  refine lv_aload_n hx hb dL_law_1310 rfl (lv_at hl 2 rfl) ?_
  refine lv_aload_n hx hb dL_law_1311 rfl (lv_at hl 0 rfl) ?_
  refine lv_iload_n hx hb dL_law_1312 rfl (lv_at hl 3 rfl) ?_
  refine lv_iconst (v := 1) hx hb dL_law_1313 (by decide) ?_
  refine lv_iadd hx hb dL_law_1314 ?_
  refine L_ld A I1 h1 dL_law_1315 ?_
  refine L_callV (as := [.int (xs (i + 1).toNatClampNeg)]) (rest := [.int r]) (v := some (.int r)) (u' := u2) (o := 45) A I1 hl.1 (tX9_image e2) dL_law_1316 hm_X9_image hv_X9_image ln_L_175 hk1 rfl (Nat.le_of_ble_eq_true rfl) (Nat.le_of_ble_eq_true rfl) (by omega) (by omega) (fun H1 locs1 I1 => ?_)
  refine lv_icmp_eq (tgt := 1383) hx hb dL_law_1319 (by decide) (fun _ => ?_) (fun h => absurd rfl h)
  exact kn u2 _ _ _ _ ls (by omega) (by omega) hu2 I1 hl
set_option maxRecDepth 100000 in
set_option maxHeartbeats 4000000 in
theorem L_39 {Rel : Mm → Prop} (hR0 : ∀ u, Rel u → (mK u 0).1 = 8) {i : Int32} {k : Nat} (hk : k < 512) (A : lAmb p s m args meth c g b L xs) (h1 : vp_in (i + 1) L) (hs : ∀ (x1 : Int32), hwS Rel (fun u => fX8_back u 0 x1) (fun u => fX9_back u 45 x1)) (kn : lHead p lch e s m args below meth c g b (k + 1) Q Rel 1383 i) : lHead p lch e s m args below meth c g b k Q Rel 1324 i := by
  intro u H locs cells slots ls hc hsl hu I hl
  obtain ⟨r, u1, u2, e1, hk1, e2, hu2⟩ := hs (xs (i + 1).toNatClampNeg) u hu
  have hx := A.1
  have hb := A.2.1
  refine lv_aload_n hx hb dL_law_1324 rfl (lv_at hl 1 rfl) ?_
  refine lv_aload_n hx hb dL_law_1325 rfl (lv_at hl 0 rfl) ?_
  refine lv_iload_n hx hb dL_law_1326 rfl (lv_at hl 3 rfl) ?_
  refine lv_iconst (v := 1) hx hb dL_law_1327 (by decide) ?_
  refine lv_iadd hx hb dL_law_1328 ?_
  refine L_ld A I h1 dL_law_1329 ?_
  refine L_callV (as := [.int (xs (i + 1).toNatClampNeg)]) (rest := []) (v := some (.int r)) (u' := u1) (o := 0) A I hl.1 (tX8_back e1) dL_law_1330 hm_X8_back hv_X8_back ln_L_176 (hR0 u hu) rfl (Nat.le_of_ble_eq_true rfl) (Nat.le_of_ble_eq_true rfl) (by omega) (by omega) (fun H1 locs1 I1 => ?_)
  refine lv_aload_n hx hb dL_law_1333 rfl (lv_at hl 2 rfl) ?_
  refine lv_aload_n hx hb dL_law_1334 rfl (lv_at hl 0 rfl) ?_
  refine lv_iload_n hx hb dL_law_1335 rfl (lv_at hl 3 rfl) ?_
  refine lv_iconst (v := 1) hx hb dL_law_1336 (by decide) ?_
  refine lv_iadd hx hb dL_law_1337 ?_
  refine L_ld A I1 h1 dL_law_1338 ?_
  refine L_callV (as := [.int (xs (i + 1).toNatClampNeg)]) (rest := [.int r]) (v := some (.int r)) (u' := u2) (o := 45) A I1 hl.1 (tX9_back e2) dL_law_1339 hm_X9_back hv_X9_back ln_L_179 hk1 rfl (Nat.le_of_ble_eq_true rfl) (Nat.le_of_ble_eq_true rfl) (by omega) (by omega) (fun H1 locs1 I1 => ?_)
  refine lv_icmp_eq (tgt := 1383) hx hb dL_law_1342 (by decide) (fun _ => ?_) (fun h => absurd rfl h)
  exact kn u2 _ _ _ _ ls (by omega) (by omega) hu2 I1 hl
set_option maxRecDepth 100000 in
set_option maxHeartbeats 4000000 in
theorem L_40 {Rel : Mm → Prop} (hR0 : ∀ u, Rel u → (mK u 0).1 = 8) {i : Int32} {k : Nat} (hk : k < 512) (A : lAmb p s m args meth c g b L xs) (h1 : vp_in (i + 1) L) (hs : ∀ (x1 : Int32), hwS Rel (fun u => fX8_count u 0 x1) (fun u => fX9_count u 45 x1)) (kn : lHead p lch e s m args below meth c g b (k + 1) Q Rel 1383 i) : lHead p lch e s m args below meth c g b k Q Rel 1347 i := by
  intro u H locs cells slots ls hc hsl hu I hl
  obtain ⟨r, u1, u2, e1, hk1, e2, hu2⟩ := hs (xs (i + 1).toNatClampNeg) u hu
  have hx := A.1
  have hb := A.2.1
  refine lv_aload_n hx hb dL_law_1347 rfl (lv_at hl 1 rfl) ?_
  refine lv_aload_n hx hb dL_law_1348 rfl (lv_at hl 0 rfl) ?_
  refine lv_iload_n hx hb dL_law_1349 rfl (lv_at hl 3 rfl) ?_
  refine lv_iconst (v := 1) hx hb dL_law_1350 (by decide) ?_
  refine lv_iadd hx hb dL_law_1351 ?_
  refine L_ld A I h1 dL_law_1352 ?_
  refine L_callV (as := [.int (xs (i + 1).toNatClampNeg)]) (rest := []) (v := some (.int r)) (u' := u1) (o := 0) A I hl.1 (tX8_count e1) dL_law_1353 hm_X8_count hv_X8_count ln_L_180 (hR0 u hu) rfl (Nat.le_of_ble_eq_true rfl) (Nat.le_of_ble_eq_true rfl) (by omega) (by omega) (fun H1 locs1 I1 => ?_)
  refine lv_aload_n hx hb dL_law_1356 rfl (lv_at hl 2 rfl) ?_
  refine lv_aload_n hx hb dL_law_1357 rfl (lv_at hl 0 rfl) ?_
  refine lv_iload_n hx hb dL_law_1358 rfl (lv_at hl 3 rfl) ?_
  refine lv_iconst (v := 1) hx hb dL_law_1359 (by decide) ?_
  refine lv_iadd hx hb dL_law_1360 ?_
  refine L_ld A I1 h1 dL_law_1361 ?_
  refine L_callV (as := [.int (xs (i + 1).toNatClampNeg)]) (rest := [.int r]) (v := some (.int r)) (u' := u2) (o := 45) A I1 hl.1 (tX9_count e2) dL_law_1362 hm_X9_count hv_X9_count ln_L_183 hk1 rfl (Nat.le_of_ble_eq_true rfl) (Nat.le_of_ble_eq_true rfl) (by omega) (by omega) (fun H1 locs1 I1 => ?_)
  refine lv_icmp_eq (tgt := 1383) hx hb dL_law_1365 (by decide) (fun _ => ?_) (fun h => absurd rfl h)
  exact kn u2 _ _ _ _ ls (by omega) (by omega) hu2 I1 hl
set_option maxRecDepth 100000 in
set_option maxHeartbeats 4000000 in
theorem L_41 {Rel : Mm → Prop} (hR0 : ∀ u, Rel u → (mK u 0).1 = 8) {i : Int32} {k : Nat} (hk : k < 512) (A : lAmb p s m args meth c g b L xs) (hs : hwS Rel (fun u => fX8_status u 0) (fun u => fX9_status u 45)) (kn : lHead p lch e s m args below meth c g b (k + 1) Q Rel 1383 i) : lHead p lch e s m args below meth c g b k Q Rel 1370 i := by
  intro u H locs cells slots ls hc hsl hu I hl
  obtain ⟨r, u1, u2, e1, hk1, e2, hu2⟩ := hs u hu
  have hx := A.1
  have hb := A.2.1
  refine lv_aload_n hx hb dL_law_1370 rfl (lv_at hl 1 rfl) ?_
  refine L_callV (as := []) (rest := []) (v := some (.int r)) (u' := u1) (o := 0) A I hl.1 (tX8_status e1) dL_law_1371 hm_X8_status hv_X8_status ln_L_184 (hR0 u hu) rfl (Nat.le_of_ble_eq_true rfl) (Nat.le_of_ble_eq_true rfl) (by omega) (by omega) (fun H1 locs1 I1 => ?_)
  refine lv_aload_n hx hb dL_law_1374 rfl (lv_at hl 2 rfl) ?_
  refine L_callV (as := []) (rest := [.int r]) (v := some (.int r)) (u' := u2) (o := 45) A I1 hl.1 (tX9_status e2) dL_law_1375 hm_X9_status hv_X9_status ln_L_187 hk1 rfl (Nat.le_of_ble_eq_true rfl) (Nat.le_of_ble_eq_true rfl) (by omega) (by omega) (fun H1 locs1 I1 => ?_)
  refine lv_icmp_eq (tgt := 1383) hx hb dL_law_1378 (by decide) (fun _ => ?_) (fun h => absurd rfl h)
  exact kn u2 _ _ _ _ ls (by omega) (by omega) hu2 I1 hl
end LAWS

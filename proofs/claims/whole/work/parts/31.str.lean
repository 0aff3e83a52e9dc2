/-! ===== methods that only read what was there: contracts, calls ===== -/
def hPs (g : hG) (as : List Value) : Array Value → State → Prop := fun v U => v = as.toArray ∧ KK g U
def hQs (r : Option Value) : Array Value → State → Outcome → State → Prop := fun _ st o t => o = .returned r ∧ t.heap = st.heap
abbrev Es (d : Nat) (Y : MI) (g : hG) (lch : Launch) (as : List Value) (r : Option Value) : Prop := Met lch Y.1 (hWs Y) ({ frames := d, cells := 0, slots := 0, locals := 64 * d }) (hPs g as) (hQs r) 0 0 (fun _ => False)
theorem hPs_blind (g : hG) (as : List Value) : FrameBlind (hPs g as) := fun a U f mk q => ⟨q.1, KK.calling q.2⟩
theorem Es.of {d : Nat} {Y : MI} {g : hG} {lch : Launch} {as : List Value} {r : Option Value} (hy : plainName Y.1.cls = true) (hn : (lg_sl as).length ≤ Y.2.2.1)
    (h : ∀ (p : Program) (e : Env) (R : Room) (s : State) (m : MethodId) (args : Array Value) (below : List Frame) (meth : Method) (c : Code) (ls : Array Slot), hAmb Y p s m args meth c g → d ≤ R.frames → 64 * d ≤ R.locals → lv_has ls Y.2.2.1 (lv_args 0 as) → W p lch e R s m args below meth c s.heap [] 0 0 (MQ below (hQs r) args s 0 0 (fun _ => False)) (F0 m 0 ls [])) : Es d Y g lch as r := by
  refine Met.ofW (cc := Y.2.1) (maxL := Y.2.2.1) (ret := Y.2.2.2) (ws' := UW) hy rfl ?_
  intro p e s m args below meth c s₁ B hml hv
  obtain ⟨rfl, hK⟩ := hv
  have hts := atoms_spec (ws := hWs Y) B.pre
  have hl := lv_entry as (n := Y.2.2.1) hn
  rw [lg_entry_eq]
  generalize (lg_sl as ++ List.replicate (Y.2.2.1 - (lg_sl as).length) Slot.unset).toArray = ls at hl ⊢
  exact h p e _ s m as.toArray below meth c ls ⟨B.exec, B.bytes, hml, B.returns, B.notSynchronized, (name_of_methodNamed B.named B.method).1, findClass_of_methodNamed B.named, fun w hw => hts w (List.mem_cons_of_mem _ hw), hK⟩ (Nat.le_refl _) (Nat.le_refl _) hl
section ESTR
variable {p : Program} {lch : Launch} {e : Env} {R : Room} {s : State} {m : MethodId} {args : Array Value} {below : List Frame} {meth : Method} {c : Code} {H : Heap} {locs : List Loc} {cells slots : Nat} {Q : State → Prop} {pc : Nat} {ls : Array Slot} {rest : List Value} {Y Y' : MI} {g : hG} {d' n idx : Nat} {as : List Value} {r : Option Value}
theorem va_same {a : Array Value} {st0 : List Value} (hr : va_Run p lch e R s m args below meth c H locs cells slots 0 0 (F0 m pc ls st0) rest (hQs r a) (fun _ => False)) (kk : W p lch e R s m args below meth c H locs cells slots Q (F0 m (pc + 3) ls (r.toList ++ rest))) : W p lch e R s m args below meth c H locs cells slots Q (F0 m pc ls st0) := by
  intro T hT X
  obtain ⟨v, st₀, t, T', L, h0, X', hL, e1, -, ⟨hv, hh⟩, st⟩ := hr T hT X
  have hv : v = r := Outcome.returned.inj hv
  subst hv
  obtain ⟨t2, a1, b1⟩ := kk T' (by rw [e1, hh, h0]) (Stand.forget X' (fun q h => (hL q h).elim))
  exact ⟨t2, st t2 a1, b1⟩
theorem jS (A : hAmb Y p s m args meth c g) (hH : ∀ q, q < g.1 → H[q]? = s.heap[q]?) (hsz : ls.size = Y.2.2.1) (hM : Es d' Y' g lch as r) (hd : decode Y.2.1 pc = .ok (.invokestatic idx, 3)) (hm : hMeth Y' n) (hs : Cond.static Y'.1 ∈ UW) (hlk : Cond.methodLink Y.1.cls idx Y'.1 ∈ UW) (hn : as.length = n) (h8 : (rest.map fun v => v.category).sum ≤ 8) (hR : d' + 1 ≤ R.frames ∧ 64 * (d' + 1) ≤ R.locals) (hc : cells ≤ R.cells) (hsl : slots ≤ R.slots)
    (kk : W p lch e R s m args below meth c H locs cells slots Q (F0 m (pc + 3) ls (r.toList ++ rest))) : W p lch e R s m args below meth c H locs cells slots Q (F0 m pc ls (as.reverse ++ rest)) := by
  have hts := A.2.2.2.2.2.2.2.1
  have h64 := hm.2.2.2.2
  refine va_same (va_runS (Ts := UW) (n := n) (bytes := Y'.2.1) (maxL := Y'.2.2.1) (ret := Y'.2.2.2) ⟨A.1, A.2.1, A.2.2.1, A.2.2.2.2.2.2.1, hts⟩ hM ⟨⟨rfl, rfl, hR.1, (by show 8 + (Y'.2.2.1 + 11) + 64 * d' ≤ R.locals; omega), hWs_warm hts hm.1, List.mem_cons_self, hts _ hm.1, hts _ hm.2.1, hm.2.2.1, hSig hm.2.2.2.1, hts _ hlk⟩, hts _ hs⟩ ⟨hPs_blind g as, fun U hU hW => ⟨rfl, KK.warm hW (fun q hq => by rw [hU]; exact hH q hq) A.2.2.2.2.2.2.2.2⟩⟩ rfl hn hsz rfl (lv_room h8) hd ⟨hc, hsl⟩) kk
theorem jV (A : hAmb Y p s m args meth c g) (hH : ∀ q, q < g.1 → H[q]? = s.heap[q]?) (hsz : ls.size = Y.2.2.1) (hM : Es d' Y' g lch (.ref g.2.2.2.1 :: as) r) (hcls : Y'.1.cls = "java/lang/String") (hd : decode Y.2.1 pc = .ok (.invokevirtual idx, 3)) (hm : hMeth Y' n) (hj : Cond.instanceMethod Y'.1 ∈ UW ∧ Cond.selects Y'.1.cls Y'.1 Y'.1 ∈ UW) (hlk : Cond.methodLink Y.1.cls idx Y'.1 ∈ UW) (hn : as.length = n) (h8 : (rest.map fun v => v.category).sum ≤ 8) (hR : d' + 1 ≤ R.frames ∧ 64 * (d' + 1) ≤ R.locals) (hc : cells ≤ R.cells) (hsl : slots ≤ R.slots)
    (kk : W p lch e R s m args below meth c H locs cells slots Q (F0 m (pc + 3) ls (r.toList ++ rest))) : W p lch e R s m args below meth c H locs cells slots Q (F0 m pc ls (as.reverse ++ .ref g.2.2.2.1 :: rest)) := by
  have hts := A.2.2.2.2.2.2.2.1
  have h64 := hm.2.2.2.2
  have hrc : ∃ cellB : Cell, H[g.2.2.2.1]? = some cellB ∧ cellB.vm.isStatics = false ∧ s.vm.findClass Y'.1.cls = some cellB.cls := by
    obtain ⟨cell, q1, q2, q3, q4⟩ := (A.2.2.2.2.2.2.2.2.2.2.1.1 0 (by decide)).1
    exact ⟨cell, by rw [hH _ (Nat.not_le.mp q4)]; exact q1, q2, by rw [hcls]; exact q3⟩
  refine va_same (va_runV (Ts := UW) (n := n) (C := Y'.1.cls) (bytes := Y'.2.1) (maxL := Y'.2.2.1) (ret := Y'.2.2.2) ⟨A.1, A.2.1, A.2.2.1, A.2.2.2.2.2.2.1, hts⟩ hM ⟨⟨rfl, rfl, hR.1, (by show 8 + (Y'.2.2.1 + 11) + 64 * d' ≤ R.locals; omega), hWs_warm hts hm.1, List.mem_cons_self, hts _ hm.1, hts _ hm.2.1, hm.2.2.1, hSig hm.2.2.2.1, hts _ hlk⟩, hts _ hj.1, hts _ hj.2⟩ ⟨hPs_blind g _, hrc, fun U hU hW => ⟨rfl, KK.warm hW (fun q hq => by rw [hU]; exact hH q hq) A.2.2.2.2.2.2.2.2⟩⟩ rfl hn hsz rfl (lv_room h8) hd ⟨hc, hsl⟩) kk
end ESTR
theorem hKs_S {g : hG} {s : State} (h : KK g s) : vk_S 1 [hwBy.length] [hwBy] (fun _ => g.2.2.2.1) (fun _ => g.2.2.2.2) (fun q => g.1 ≤ q) s s.heap := h.2.2.1
set_option maxRecDepth 100000 in
set_option maxHeartbeats 1000000 in
theorem j_coder (g : hG) (lch : Launch) : Es 0 MJ0_coder_7d493 g lch [.ref g.2.2.2.1] (some (.int 0)) := by
  refine Es.of (by decide +kernel) (Nat.le_of_ble_eq_true rfl) ?_
  intro p e R s m args below meth c ls A h1 h2 hl
  have hts := A.2.2.2.2.2.2.2.1
  have hS : va_S (fun q => g.1 ≤ q) s.heap s.heap [] := va_S.rf
  have hK := A.2.2.2.2.2.2.2.2
  refine va_gets A.1 A.2.1 hK.2.2.2.1 hS A.2.2.2.2.2.2.1 (hts _ jf_38) (fun _ h => h) dJ0_coder_7d493_0 ?_
  refine lv_if_eq (tgt := 13) A.1 A.2.1 dJ0_coder_7d493_3 (by decide) (fun h => absurd h (by decide)) (fun _ => ?_)
  refine lv_aload_n A.1 A.2.1 dJ0_coder_7d493_6 rfl (lv_at hl 0 rfl) ?_
  refine vk_getf A.1 A.2.1 ((hKs_S hK).1 0 (by decide)).2.1 hS A.2.2.2.2.2.2.1 (hts _ jf_15) (fun _ h => h) dJ0_coder_7d493_7 ?_
  refine lv_goto (tgt := 14) A.1 A.2.1 dJ0_coder_7d493_10 (by decide) ?_
  exact W.zret (ty := .byte) A.1 A.2.1 A.2.2.2.1 (by decide +kernel) (fun t ht hW => ⟨rfl, ht⟩) (fun _ h => by cases h) dJ0_coder_7d493_14 A.2.2.2.2.1
set_option maxRecDepth 100000 in
set_option maxHeartbeats 1000000 in
theorem j_isLatin1 (g : hG) (lch : Launch) : Es 0 MJ0_isLatin1_aae02 g lch [.ref g.2.2.2.1] (some (.int 1)) := by
  refine Es.of (by decide +kernel) (Nat.le_of_ble_eq_true rfl) ?_
  intro p e R s m args below meth c ls A h1 h2 hl
  have hts := A.2.2.2.2.2.2.2.1
  have hS : va_S (fun q => g.1 ≤ q) s.heap s.heap [] := va_S.rf
  have hK := A.2.2.2.2.2.2.2.2
  refine va_gets A.1 A.2.1 hK.2.2.2.1 hS A.2.2.2.2.2.2.1 (hts _ jf_38) (fun _ h => h) dJ0_isLatin1_aae02_0 ?_
  refine lv_if_eq (tgt := 17) A.1 A.2.1 dJ0_isLatin1_aae02_3 (by decide) (fun h => absurd h (by decide)) (fun _ => ?_)
  refine lv_aload_n A.1 A.2.1 dJ0_isLatin1_aae02_6 rfl (lv_at hl 0 rfl) ?_
  refine vk_getf A.1 A.2.1 ((hKs_S hK).1 0 (by decide)).2.1 hS A.2.2.2.2.2.2.1 (hts _ jf_15) (fun _ h => h) dJ0_isLatin1_aae02_7 ?_
  refine lv_if_ne (tgt := 17) A.1 A.2.1 dJ0_isLatin1_aae02_10 (by decide) (fun h => absurd rfl h) (fun _ => ?_)
  refine lv_iconst (v := 1) A.1 A.2.1 dJ0_isLatin1_aae02_13 (by decide) ?_
  refine lv_goto (tgt := 18) A.1 A.2.1 dJ0_isLatin1_aae02_14 (by decide) ?_
  exact W.zret (ty := .boolean) A.1 A.2.1 A.2.2.2.1 (by decide +kernel) (fun t ht hW => ⟨rfl, ht⟩) (fun _ h => by cases h) dJ0_isLatin1_aae02_18 A.2.2.2.2.1
theorem hwBy_len : hwBy.length = 141 := by decide +kernel
set_option maxRecDepth 100000 in
set_option maxHeartbeats 1000000 in
theorem j_length (g : hG) (lch : Launch) : Es 1 MJ0_length_8abf5 g lch [.ref g.2.2.2.1] (some (.int 141)) := by
  refine Es.of (by decide +kernel) (Nat.le_of_ble_eq_true rfl) ?_
  intro p e R s m args below meth c ls A h1 h2 hl
  have hts := A.2.2.2.2.2.2.2.1
  have hS : va_S (fun q => g.1 ≤ q) s.heap s.heap [] := va_S.rf
  have hK := A.2.2.2.2.2.2.2.2
  refine lv_aload_n A.1 A.2.1 dJ0_length_8abf5_0 rfl (lv_at hl 0 rfl) ?_
  refine vk_getf A.1 A.2.1 ((hKs_S hK).1 0 (by decide)).2.2.1 hS A.2.2.2.2.2.2.1 (hts _ jf_9) (fun _ h => h) dJ0_length_8abf5_1 ?_
  obtain ⟨scr, hc1, hc2, hc3, hc4, hc5, -⟩ := ((hKs_S hK).1 0 (by decide)).2.2.2
  refine W.alen (n := 141) A.1 A.2.1 hc1 hc2 (hc5.trans (show Int32.ofNat hwBy.length = 141 by rw [hwBy_len]; rfl)) rfl rfl dJ0_length_8abf5_4 ?_
  refine lv_aload_n A.1 A.2.1 dJ0_length_8abf5_5 rfl (lv_at hl 0 rfl) ?_
  refine jV (as := []) (n := 0) A (fun _ _ => rfl) hl.1 (j_coder g lch) rfl dJ0_length_8abf5_6 hm_J0_coder_7d493 hj_J0_coder_7d493 js_J0_335 rfl (Nat.le_of_ble_eq_true rfl) ⟨by omega, by omega⟩ (Nat.zero_le _) (Nat.zero_le _) ?_
  refine lv_ishr A.1 A.2.1 dJ0_length_8abf5_9 ?_
  refine lv_topi (fun y hy => ?_)
  have hy : y = 141 := by rw [hy]; decide +kernel
  subst hy
  exact W.iret A.1 A.2.1 A.2.2.2.1 (fun t ht hW => ⟨rfl, ht⟩) (fun _ h => by cases h) dJ0_length_8abf5_10 A.2.2.2.2.1
set_option maxRecDepth 100000 in
set_option maxHeartbeats 1000000 in
theorem j_check3 (g : hG) (lch : Launch) {i n : Int32} {f : Value} (hf : f = .null ∨ ∃ a, f = .ref a) (h0 : ¬ i < 0) (hin : i < n) : Es 0 MJ3_checkIndex_8e157 g lch [.int i, .int n, f] (some (.int i)) := by
  refine Es.of (by decide +kernel) (by rcases hf with rfl | ⟨a, rfl⟩ <;> exact Nat.le_of_ble_eq_true rfl) ?_
  intro p e R s m args below meth c ls A h1 h2 hl
  refine lv_iload_n A.1 A.2.1 dJ3_checkIndex_8e157_0 rfl (lv_at hl 0 rfl) ?_
  refine lv_if_lt (tgt := 9) A.1 A.2.1 dJ3_checkIndex_8e157_1 (by decide) (fun h => absurd h h0) (fun _ => ?_)
  refine lv_iload_n A.1 A.2.1 dJ3_checkIndex_8e157_4 rfl (lv_at hl 0 rfl) ?_
  refine lv_iload_n A.1 A.2.1 dJ3_checkIndex_8e157_5 rfl (lv_at hl 1 rfl) ?_
  refine lv_icmp_lt (tgt := 16) A.1 A.2.1 dJ3_checkIndex_8e157_6 (by decide) (fun _ => ?_) (fun h => absurd hin h)
  refine lv_iload_n A.1 A.2.1 dJ3_checkIndex_8e157_16 rfl (lv_at hl 0 rfl) ?_
  exact W.iret A.1 A.2.1 A.2.2.2.1 (fun t ht hW => ⟨rfl, ht⟩) (fun _ h => by cases h) dJ3_checkIndex_8e157_17 A.2.2.2.2.1
set_option maxRecDepth 100000 in
set_option maxHeartbeats 1000000 in
theorem j_check0 (g : hG) (lch : Launch) {i n : Int32} (h0 : ¬ i < 0) (hin : i < n) : Es 1 MJ0_checkIndex_df160 g lch [.int i, .int n] none := by
  refine Es.of (by decide +kernel) (Nat.le_of_ble_eq_true rfl) ?_
  intro p e R s m args below meth c ls A h1 h2 hl
  have hts := A.2.2.2.2.2.2.2.1
  have hS : va_S (fun q => g.1 ≤ q) s.heap s.heap [] := va_S.rf
  have hK := A.2.2.2.2.2.2.2.2
  refine lv_iload_n A.1 A.2.1 dJ0_checkIndex_df160_0 rfl (lv_at hl 0 rfl) ?_
  refine lv_iload_n A.1 A.2.1 dJ0_checkIndex_df160_1 rfl (lv_at hl 1 rfl) ?_
  have hz : ∃ f : Value, (f = .null ∨ ∃ a, f = .ref a) ∧ va_Z "jdk/internal/util/Preconditions" "SIOOBE_FORMATTER" "Ljava/util/function/BiFunction;" f (fun q => g.1 ≤ q) s s.heap := by
    rcases hK.2.2.2.2 with h | ⟨t, h⟩
    · exact ⟨_, Or.inl rfl, h⟩
    · exact ⟨_, Or.inr ⟨t, rfl⟩, h⟩
  obtain ⟨f, hf, hZ⟩ := hz
  refine va_gets A.1 A.2.1 hZ hS A.2.2.2.2.2.2.1 (hts _ jf_1053) (fun _ h => h) dJ0_checkIndex_df160_2 ?_
  refine jS (as := [.int i, .int n, f]) (rest := []) (n := 3) A (fun _ _ => rfl) hl.1 (j_check3 g lch hf h0 hin) dJ0_checkIndex_df160_5 hm_J3_checkIndex_8e157 hs_J3_checkIndex_8e157 js_J0_1059 rfl (Nat.le_of_ble_eq_true rfl) ⟨by omega, by omega⟩ (Nat.zero_le _) (Nat.zero_le _) ?_
  refine lv_pop A.1 A.2.1 dJ0_checkIndex_df160_8 rfl ?_
  exact W.vret A.1 A.2.1 A.2.2.2.1 (fun t ht hW => ⟨rfl, ht⟩) (fun _ h => by cases h) dJ0_checkIndex_df160_9 A.2.2.2.2.1
theorem hwBy_c : ∀ j : Nat, j < 141 → ((hwBy.getD j 0 &&& 255).toUInt32 % 65536).toInt32 = hwBy.getD j 0 := by decide +kernel
theorem hwBy_n : ∀ j : Nat, j < 141 → narrow .char (.int (hwBy.getD j 0)) = .int (hwBy.getD j 0) := by decide +kernel
set_option maxRecDepth 100000 in
set_option maxHeartbeats 1000000 in
theorem j_char1 (g : hG) (lch : Launch) {i : Int32} (hi : 0 ≤ i ∧ i.toNatClampNeg < 141) : Es 2 MJ1_charAt_3b067 g lch [.ref g.2.2.2.2, .int i] (some (.int (hwBy.getD i.toNatClampNeg 0))) := by
  refine Es.of (by decide +kernel) (Nat.le_of_ble_eq_true rfl) ?_
  intro p e R s m args below meth c ls A h1 h2 hl
  have hts := A.2.2.2.2.2.2.2.1
  have hS : va_S (fun q => g.1 ≤ q) s.heap s.heap [] := va_S.rf
  have hK := A.2.2.2.2.2.2.2.2
  have hT := ((hKs_S hK).1 0 (by decide)).2.2.2
  obtain ⟨scr, hc1, hc2, hc3, hc4, hc5, -⟩ := id hT
  have hlt : i < (141 : Int32) := by
    rw [Int32.lt_iff_toInt_lt]
    have h0 : (0 : Int) ≤ i.toInt := by simpa using Int32.le_iff_toInt_le.mp hi.1
    have e1 : (i.toNatClampNeg : Int) = i.toInt := Int.toNat_of_nonneg h0
    have e2 : (141 : Int32).toInt = 141 := by decide +kernel
    omega
  refine lv_iload_n A.1 A.2.1 dJ1_charAt_3b067_0 rfl (lv_at hl 1 rfl) ?_
  refine lv_aload_n A.1 A.2.1 dJ1_charAt_3b067_1 rfl (lv_at hl 0 rfl) ?_
  refine W.alen (n := 141) A.1 A.2.1 hc1 hc2 (hc5.trans (show Int32.ofNat hwBy.length = 141 by rw [hwBy_len]; rfl)) rfl rfl dJ1_charAt_3b067_2 ?_
  refine jS (as := [.int i, .int 141]) (rest := []) (n := 2) A (fun _ _ => rfl) hl.1 (j_check0 g lch (Int32.not_lt.mpr hi.1) hlt) dJ1_charAt_3b067_3 hm_J0_checkIndex_df160 hs_J0_checkIndex_df160 js_J1_9 rfl (Nat.le_of_ble_eq_true rfl) ⟨by omega, by omega⟩ (Nat.zero_le _) (Nat.zero_le _) ?_
  refine lv_aload_n A.1 A.2.1 dJ1_charAt_3b067_6 rfl (lv_at hl 0 rfl) ?_
  refine lv_iload_n A.1 A.2.1 dJ1_charAt_3b067_7 rfl (lv_at hl 1 rfl) ?_
  refine va_tb (v := .int (hwBy.getD i.toNatClampNeg 0)) A.1 A.2.1 hT hS (in_of ⟨hi.1, by show _ < hwBy.length; rw [hwBy_len]; exact hi.2⟩) rfl dJ1_charAt_3b067_8 ?_
  refine lv_sipush (v := 255) A.1 A.2.1 dJ1_charAt_3b067_9 (by decide) ?_
  refine lv_iand A.1 A.2.1 dJ1_charAt_3b067_12 ?_
  refine lv_i2c A.1 A.2.1 (v := hwBy.getD i.toNatClampNeg 0) dJ1_charAt_3b067_13 (hwBy_c _ hi.2) ?_
  exact W.zret (ty := .char) A.1 A.2.1 A.2.2.2.1 (hwBy_n _ hi.2) (fun t ht hW => ⟨rfl, ht⟩) (fun _ h => by cases h) dJ1_charAt_3b067_14 A.2.2.2.2.1
set_option maxRecDepth 100000 in
set_option maxHeartbeats 1000000 in
theorem j_char (g : hG) (lch : Launch) {i : Int32} (hi : 0 ≤ i ∧ i.toNatClampNeg < 141) : Es 3 MJ0_charAt_5068e g lch [.ref g.2.2.2.1, .int i] (some (.int (hwBy.getD i.toNatClampNeg 0))) := by
  refine Es.of (by decide +kernel) (Nat.le_of_ble_eq_true rfl) ?_
  intro p e R s m args below meth c ls A h1 h2 hl
  have hts := A.2.2.2.2.2.2.2.1
  have hS : va_S (fun q => g.1 ≤ q) s.heap s.heap [] := va_S.rf
  have hK := A.2.2.2.2.2.2.2.2
  refine lv_aload_n A.1 A.2.1 dJ0_charAt_5068e_0 rfl (lv_at hl 0 rfl) ?_
  refine jV (as := []) (rest := []) (n := 0) A (fun _ _ => rfl) hl.1 (j_isLatin1 g lch) rfl dJ0_charAt_5068e_1 hm_J0_isLatin1_aae02 hj_J0_isLatin1_aae02 js_J0_492 rfl (Nat.le_of_ble_eq_true rfl) ⟨by omega, by omega⟩ (Nat.zero_le _) (Nat.zero_le _) ?_
  refine lv_if_eq (tgt := 16) A.1 A.2.1 dJ0_charAt_5068e_4 (by decide) (fun h => absurd h (by decide)) (fun _ => ?_)
  refine lv_aload_n A.1 A.2.1 dJ0_charAt_5068e_7 rfl (lv_at hl 0 rfl) ?_
  refine vk_getf A.1 A.2.1 ((hKs_S hK).1 0 (by decide)).2.2.1 hS A.2.2.2.2.2.2.1 (hts _ jf_9) (fun _ h => h) dJ0_charAt_5068e_8 ?_
  refine lv_iload_n A.1 A.2.1 dJ0_charAt_5068e_11 rfl (lv_at hl 1 rfl) ?_
  refine jS (as := [.ref g.2.2.2.2, .int i]) (rest := []) (n := 2) A (fun _ _ => rfl) hl.1 (j_char1 g lch hi) dJ0_charAt_5068e_12 hm_J1_charAt_3b067 hs_J1_charAt_3b067 js_J0_495 rfl (Nat.le_of_ble_eq_true rfl) ⟨by omega, by omega⟩ (Nat.zero_le _) (Nat.zero_le _) ?_
  exact W.zret (ty := .char) A.1 A.2.1 A.2.2.2.1 (hwBy_n _ hi.2) (fun t ht hW => ⟨rfl, ht⟩) (fun _ h => by cases h) dJ0_charAt_5068e_15 A.2.2.2.2.1
/-! the two rows of Reader.wordAt that speak of the text -/
section ETXT
variable {Y : MI} {d kc ks pc : Nat} {res : Option Value × Mm} {l l' : List (Nat × Value)} {st : List Value} {u : Mm} {ρ : Type} {r : ρ}
def oSc (i : Int32) (F : Int32 → Option ρ) : Option ρ := if 0 ≤ i ∧ i.toNatClampNeg < 141 then F (hwBy.getD i.toNatClampNeg 0) else none
theorem E_slen (hd1 : decode Y.2.1 pc = .ok (.ldc 72, 2)) (hd2 : decode Y.2.1 (pc + 2) = .ok (.invokevirtual 74, 3)) (hcls : Y.1.cls = "HyphenWar$Reader") (hdp : 4 ≤ d) (h8 : (st.map fun v => v.category).sum ≤ 8) (k : Eg Y d kc ks res (pc + 2 + 3) l (.int 141 :: st) u) : Eg Y d kc ks res pc l st u := by
  intro g p lch e R s m args below meth c H locs cells slots ls A h1 h2 h3 h4 I hl
  have hw := k g p lch e R s m args below meth c H locs cells slots ls A h1 h2 h3 h4 I hl
  refine va_ldcS A.1 A.2.1 A.2.2.2.2.2.2.1 (hcls ▸ A.2.2.2.2.2.2.2.2.2.1) hd1 ?_
  exact jV (as := []) (rest := st.map (cv g.1)) (n := 0) A I.2.1 hl.1 (j_length g lch) rfl hd2 hm_J0_length_8abf5 hj_J0_length_8abf5 (hcls ▸ js_X4_74) rfl (by rw [cv_sum]; exact h8) ⟨by omega, by omega⟩ (by omega) (by omega) hw
theorem E_schar {n : Nat} {x : Int32} {F : Int32 → Option ρ} (h : oSc x F = some r) (hd1 : decode Y.2.1 pc = .ok (.ldc 72, 2)) (hd2 : decode Y.2.1 (pc + 2) = .ok (.iload n, 2)) (hd3 : decode Y.2.1 (pc + 2 + 2) = .ok (.invokevirtual 80, 3)) (hcls : Y.1.cls = "HyphenWar$Reader") (hdp : 4 ≤ d) (h8 : (st.map fun v => v.category).sum ≤ 8) (hx : lget l n = some (.int x)) (k : ∀ y, F y = some r → Eg Y d kc ks res (pc + 2 + 2 + 3) l (.int y :: st) u) : Eg Y d kc ks res pc l st u := by
  obtain ⟨hi, hF⟩ := ite_some h
  intro g p lch e R s m args below meth c H locs cells slots ls A h1 h2 h3 h4 I hl
  have hw := k _ hF g p lch e R s m args below meth c H locs cells slots ls A h1 h2 h3 h4 I hl
  refine va_ldcS A.1 A.2.1 A.2.2.2.2.2.2.1 (hcls ▸ A.2.2.2.2.2.2.2.2.2.1) hd1 ?_
  refine lv_iload A.1 A.2.1 hd2 (lget_has hl hx) ?_
  exact jV (as := [.int x]) (rest := st.map (cv g.1)) (n := 1) A I.2.1 hl.1 (j_char g lch hi) rfl hd3 hm_J0_charAt_5068e hj_J0_charAt_5068e (hcls ▸ js_X4_80) rfl (by rw [cv_sum]; exact h8) ⟨by omega, by omega⟩ (by omega) (by omega) hw
end ETXT
